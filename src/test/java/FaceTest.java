import java.lang.reflect.Constructor;
import java.lang.reflect.Executable;
import java.lang.reflect.Field;
import java.lang.reflect.Method;
import java.lang.reflect.Modifier;
import java.nio.file.Files;
import java.nio.file.Path;
import java.util.Set;
import java.util.TreeSet;
import java.util.regex.Pattern;

/** The public face as the document has it, and rules of LANGUAGE.md that can be counted. */
public final class FaceTest {
    private static final String[] FACE = {
        "int town()", "int wire(int,int,int,int)", "int station(int,int,int)", "boolean summer(int,int,int)",
        "int local(int,int,int)", "int twice(int,int,int)", "boolean day(int)", "boolean view(int)",
        "boolean join(int,int,int)", "int member(int,int)", "int hour(int,int,int,int,int,int,int)",
        "int cut(int,int,int,int,int)", "boolean own(int,int)", "int about(int,int)", "int feed(int,int,int,int,int)",
        "int end(int)", "int contract(int)", "int fault(int)", "boolean clears(int,int,int)",
        "int why(int,int,int,boolean)", "int sends(int,int,int)", "int sent(int,int)", "int miles(int,int)",
        "int string(int,int)", "boolean hands(int)", "int change(int,int,int)", "int paid(int,int,int)",
        "int owed(int,int,int)", "int lost(int,int)", "int calls(int,int,int)", "int call(int,int)",
        "boolean apart(int,int)", "int piece(int)", "boolean worth(int,int,int)", "int plan(int)", "int count(int)",
        "boolean image(int)", "boolean again(int)"};
    private static final String[] RULED_OUT = {"throw", "throws", "try", "catch", "synchronized", "assert", "->", "::",
        "Object", "java\\.util\\.[B-Z]\\w*", "static \\{", "hashCode", "\\w+Exact"};

    public static void main(String[] args) throws Exception {
        face();
        members();
        sizes();
        words();
        Due.finish();
    }

    private static String signature(Method m) {
        StringBuilder text = new StringBuilder(m.getReturnType().getName() + " " + m.getName() + "(");
        for (Class<?> type : m.getParameterTypes()) {
            text.append(text.charAt(text.length() - 1) == '(' ? "" : ",").append(type.getName());
        }
        return text + ")";
    }

    private static void face() {
        Set<String> want = new TreeSet<>(Set.of(FACE));
        Set<String> got = new TreeSet<>();
        for (Method m : HookUps.class.getDeclaredMethods()) {
            if (!Modifier.isPrivate(m.getModifiers())) {
                got.add(signature(m));
                Due.due("public, not static: " + m, m.getModifiers() == Modifier.PUBLIC, true);
            }
        }
        Due.due("face " + got, got.equals(want), true);
        Due.due("the class is public and final", HookUps.class.getModifiers() == (Modifier.PUBLIC | Modifier.FINAL), true);
        Due.due("constructors", HookUps.class.getConstructors().length, 1);
    }

    private static void members() {
        Set<String> faceNames = new TreeSet<>();
        for (String one : FACE) {
            faceNames.add(one.substring(one.indexOf(' ') + 1, one.indexOf('(')));
        }
        for (Field f : HookUps.class.getDeclaredFields()) {
            boolean none = f.getName().equals("NONE") && Modifier.isPublic(f.getModifiers());
            Due.due("private: " + f, none || Modifier.isPrivate(f.getModifiers()), true);
        }
        for (Method m : HookUps.class.getDeclaredMethods()) {
            if (Modifier.isPrivate(m.getModifiers())) {
                Due.due("no name of the face: " + m, faceNames.contains(m.getName()), false);
            }
        }
        for (Class<?> c : HookUps.class.getDeclaredClasses()) {
            Due.due("static: " + c, Modifier.isStatic(c.getModifiers()), true);
            for (Method m : c.getDeclaredMethods()) {
                Due.due("no name of the face: " + m, faceNames.contains(m.getName()), false);
            }
        }
    }

    private static void sizes() {
        Class<?>[] inside = HookUps.class.getDeclaredClasses();
        Due.due("twelve classes: " + inside.length, inside.length + 1 <= 12, true);
        sizesOf(HookUps.class);
        for (Class<?> c : inside) {
            sizesOf(c);
        }
    }

    private static void sizesOf(Class<?> c) {
        int fields = 0;
        for (Field f : c.getDeclaredFields()) {
            fields += Modifier.isStatic(f.getModifiers()) ? 0 : 1;
            Due.due("static is final: " + f, !Modifier.isStatic(f.getModifiers()) || Modifier.isFinal(f.getModifiers()), true);
        }
        Due.due("twenty fields: " + c + " " + fields, fields <= 21, true);
        for (Executable e : c.getDeclaredMethods()) {
            Due.due("seven parameters: " + e, e.getParameterCount() <= 7, true);
        }
        for (Constructor<?> e : c.getDeclaredConstructors()) {
            Due.due("seven parameters: " + e, e.getParameterCount() <= 7, true);
        }
    }

    private static void words() throws Exception {
        String source = Files.readString(Path.of("src/main/java/HookUps.java"));
        String code = Pattern.compile("/\\*.*?\\*/|//[^\n]*", Pattern.DOTALL).matcher(source).replaceAll("");
        for (String word : RULED_OUT) {
            boolean letters = Character.isLetter(word.charAt(0)) || word.charAt(0) == '\\';
            String asked = letters ? "\\b" + word + "\\b" : word;
            Due.due("ruled out: " + word, Pattern.compile(asked).matcher(code).find(), false);
        }
        for (int k = 0; k < source.length(); k++) {
            Due.due("a plain sign at " + k, source.charAt(k) < 128, true);
        }
    }
}
