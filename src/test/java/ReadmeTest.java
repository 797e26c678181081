import java.lang.reflect.Method;
import java.lang.reflect.Modifier;
import java.nio.file.Files;
import java.nio.file.Path;
import java.util.HashMap;
import java.util.List;
import java.util.Map;
import java.util.regex.Matcher;
import java.util.regex.Pattern;

/** README.md says what is so: each answer of its example is the one told there, and each call of the face is named. */
public final class ReadmeTest {
    public static void main(String[] args) throws Exception {
        String readme = Files.readString(Path.of("README.md"));
        Matcher block = Pattern.compile("```java\n(.*?)```", Pattern.DOTALL).matcher(readme);
        Due.due("an example", block.find(), true);
        holdsExample(block.group(1).lines().toList());
        namesFace(readme);
        Due.finish();
    }

    /** Runs the lines of the example one by one, so that it can't say what the class does not do. */
    private static void holdsExample(List<String> example) throws Exception {
        HookUps x = new HookUps();
        Map<String, Integer> names = new HashMap<>();
        names.put("HookUps.NONE", HookUps.NONE);
        int answers = 0;
        Due.due(example.get(0), example.get(0).equals("HookUps x = new HookUps();"), true);
        for (String line : example.subList(1, example.size())) {
            Matcher call = Pattern.compile("(?:int (\\w+) = )?x\\.(\\w+)\\((.*?)\\);(?:\\s+// (.*))?").matcher(line);
            Due.due("a call: " + line, call.matches(), true);
            int answer = make(x, call.group(2), call.group(3), names);
            if (call.group(1) != null) {
                names.put(call.group(1), answer);
                Due.due("taken: " + line, answer >= 0, true);
            }
            Matcher told = Pattern.compile("(-?\\d+)(?:: .*)?").matcher(call.group(4) == null ? "" : call.group(4));
            if (told.matches()) {
                answers++;
                Due.due(line, answer, Integer.parseInt(told.group(1)));
            }
        }
        Due.due("the example tells answers", answers > 5, true);
    }

    private static int make(HookUps x, String name, String numbers, Map<String, Integer> names) throws Exception {
        String[] words = numbers.isEmpty() ? new String[0] : numbers.split(", ");
        Object[] given = new Object[words.length];
        for (int k = 0; k < words.length; k++) {
            given[k] = valueOf(words[k], names);
        }
        for (Method m : HookUps.class.getMethods()) {
            if (m.getDeclaringClass() == HookUps.class && m.getName().equals(name)) {
                Object answer = m.invoke(x, given);
                return answer instanceof Boolean yes ? (yes ? 1 : 0) : (Integer) answer;
            }
        }
        throw new IllegalArgumentException(name);
    }

    private static int valueOf(String word, Map<String, Integer> names) {
        if (word.startsWith("1 << ")) {
            return 1 << valueOf(word.substring(5), names);
        }
        return names.containsKey(word) ? names.get(word) : Integer.decode(word);
    }

    private static void namesFace(String readme) {
        for (Method m : HookUps.class.getDeclaredMethods()) {
            if (Modifier.isPublic(m.getModifiers())) {
                Matcher named = Pattern.compile("`" + m.getName() + "\\(([^)]*)\\)`").matcher(readme);
                boolean found = named.find();
                Due.due("README.md names " + m.getName(), found, true);
                int given = !found || named.group(1).isEmpty() ? 0 : named.group(1).split(", ").length;
                Due.due("its numbers, " + m.getName(), given, m.getParameterCount());
            }
        }
    }
}
