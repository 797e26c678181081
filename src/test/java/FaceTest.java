import java.lang.reflect.Constructor;
import java.lang.reflect.Executable;
import java.lang.reflect.Field;
import java.lang.reflect.Method;
import java.lang.reflect.Modifier;
import java.nio.file.Files;
import java.nio.file.Path;
import java.util.Set;
import java.util.TreeSet;
import java.util.regex.Matcher;
import java.util.regex.Pattern;

/** The public face as the document has it, and rules of LANGUAGE.md that can be counted. */
public final class FaceTest {
    /** The methods that the document's face has, without the names of their numbers: 'int end(int)'. */
    private static final Set<String> FACE = new TreeSet<>();
    private static final String[] RULED_OUT = {"throw", "throws", "try", "catch", "synchronized", "assert", "->", "::",
        "Object", "java\\.util\\.[B-Z]\\w*", "static \\{", "hashCode", "\\w+Exact"};

    public static void main(String[] args) throws Exception {
        readFace(Files.readString(Path.of("../shared/DOC.md")));
        face();
        members();
        sizes();
        words();
        Due.finish();
    }

    private static void readFace(String document) {
        int from = document.indexOf("public final class HookUps {");
        String face = document.substring(Math.max(0, from), document.indexOf("```", Math.max(0, from)));
        Matcher method = Pattern.compile("public (\\w+ \\w+\\()(.*?)\\);").matcher(face);
        while (method.find()) {
            FACE.add(method.group(1) + method.group(2).replaceAll("(\\w+) \\w+(, )?", "$1,").replaceAll(",$", "") + ")");
        }
        Due.due("methods of the document's face " + FACE, FACE.size(), 38);
    }

    private static String signature(Method m) {
        StringBuilder text = new StringBuilder(m.getReturnType().getName() + " " + m.getName() + "(");
        for (Class<?> type : m.getParameterTypes()) {
            text.append(text.charAt(text.length() - 1) == '(' ? "" : ",").append(type.getName());
        }
        return text + ")";
    }

    private static void face() {
        Set<String> got = new TreeSet<>();
        for (Method m : HookUps.class.getDeclaredMethods()) {
            if (!Modifier.isPrivate(m.getModifiers())) {
                got.add(signature(m));
                Due.due("public, not static: " + m, m.getModifiers() == Modifier.PUBLIC, true);
            }
        }
        Due.due("face " + got, got.equals(FACE), true);
        Due.due("the class is public and final", HookUps.class.getModifiers() == (Modifier.PUBLIC | Modifier.FINAL), true);
        Due.due("constructors", HookUps.class.getConstructors().length, 1);
        Due.due("no other constructor", HookUps.class.getDeclaredConstructors().length, 1);
        Due.due("NONE", HookUps.NONE, -1);
    }

    private static void members() {
        Set<String> faceNames = new TreeSet<>();
        for (String one : FACE) {
            faceNames.add(one.substring(one.indexOf(' ') + 1, one.indexOf('(')));
        }
        for (Field f : HookUps.class.getDeclaredFields()) {
            boolean none = f.getName().equals("NONE") && Modifier.isPublic(f.getModifiers());
            Due.due("private: " + f, none || Modifier.isPrivate(f.getModifiers()), true);
        }
        for (Method m : HookUps.class.getDeclaredMethods()) {
            if (Modifier.isPrivate(m.getModifiers())) {
                Due.due("no name of the face: " + m, faceNames.contains(m.getName()), false);
            }
        }
        for (Class<?> c : HookUps.class.getDeclaredClasses()) {
            Due.due("static: " + c, Modifier.isStatic(c.getModifiers()), true);
            for (Method m : c.getDeclaredMethods()) {
                Due.due("no name of the face: " + m, faceNames.contains(m.getName()), false);
            }
        }
    }

    private static void sizes() {
        Class<?>[] inside = HookUps.class.getDeclaredClasses();
        Due.due("twelve classes: " + inside.length, inside.length + 1 <= 12, true);
        sizesOf(HookUps.class);
        for (Class<?> c : inside) {
            sizesOf(c);
        }
    }

    private static void sizesOf(Class<?> c) {
        int fields = 0;
        for (Field f : c.getDeclaredFields()) {
            fields += Modifier.isStatic(f.getModifiers()) ? 0 : 1;
            Due.due("static is final: " + f, !Modifier.isStatic(f.getModifiers()) || Modifier.isFinal(f.getModifiers()), true);
        }
        Due.due("twenty fields: " + c + " " + fields, fields <= 21, true);
        for (Executable e : c.getDeclaredMethods()) {
            Due.due("seven parameters: " + e, e.getParameterCount() <= 7, true);
        }
        for (Constructor<?> e : c.getDeclaredConstructors()) {
            Due.due("seven parameters: " + e, e.getParameterCount() <= 7, true);
        }
    }

    private static void words() throws Exception {
        String source = Files.readString(Path.of("src/main/java/HookUps.java"));
        String code = Pattern.compile("/\\*.*?\\*/|//[^\n]*", Pattern.DOTALL).matcher(source).replaceAll("");
        for (String word : RULED_OUT) {
            boolean letters = Character.isLetter(word.charAt(0)) || word.charAt(0) == '\\';
            String asked = letters ? "\\b" + word + "\\b" : word;
            Due.due("ruled out: " + word, Pattern.compile(asked).matcher(code).find(), false);
        }
        for (int k = 0; k < source.length(); k++) {
            Due.due("a plain sign at " + k, source.charAt(k) < 128, true);
        }
    }
}
