import java.io.IOException;
import java.nio.file.Files;
import java.nio.file.Path;
import java.util.ArrayList;
import java.util.List;
import java.util.Map;
import java.util.TreeMap;
import java.util.function.IntPredicate;
import java.util.function.IntUnaryOperator;
import java.util.regex.Matcher;
import java.util.regex.Pattern;

/**
 * What the tests of boundary cases share. Each test is told with the words of DOC.md that it holds, so that a
 * wrong answer names its promise and sentence, and so that cover() can see which words no test holds.
 */
abstract class Edge {
    static final int MIN = Integer.MIN_VALUE;
    static final int MAX = Integer.MAX_VALUE;

    /** Words of DOC.md, and the part of it in which they stand: 'Promise 3', 'Terms 1'. */
    record Words(String where, String text) {
    }

    private static final List<Words> TOLD = new ArrayList<>();
    private static String now = "";
    private static int tests = 0;

    static Words promise(int number, String text) {
        return new Words("Promise " + number, text);
    }

    static Words terms(int number, String text) {
        return new Words("Terms " + number, text);
    }

    /** A test of its own for these words. */
    static void holds(Runnable test, Words... words) {
        TOLD.addAll(List.of(words));
        now = words[0].where() + ", '" + words[0].text() + "': ";
        tests++;
        int before = Due.asked();
        test.run();
        Due.due(now + "the test asks something", Due.asked() > before, true);
    }

    /** Words that name no boundary case. */
    static void plain(Words... words) {
        TOLD.addAll(List.of(words));
    }

    static void due(String call, long got, long want) {
        Due.due(now + call, got, want);
    }

    static void due(String call, boolean got, boolean want) {
        Due.due(now + call, got, want);
    }

    static void none(String call, int got) {
        due(call, got, HookUps.NONE);
    }

    /** Just below, just above, and as far out as can be. */
    static int[] outside(int least, int most) {
        return new int[] {least - 1, most + 1, MIN, MAX};
    }

    /** A call with one number that is not least .. most answers that there is none such. */
    static void refuses(String call, int answer, int least, int most, IntUnaryOperator asked) {
        for (int number : outside(least, most)) {
            due(call + " with " + number, asked.applyAsInt(number), answer);
        }
    }

    static void refuses(String call, int least, int most, IntPredicate asked) {
        for (int number : outside(least, most)) {
            due(call + " with " + number, asked.test(number), false);
        }
    }

    /** Each number of least .. most is taken. */
    static void takes(String call, int least, int most, IntPredicate asked) {
        for (int number = least; number <= most; number++) {
            due(call + " with " + number, asked.test(number), true);
        }
    }

    static HookUps towns(int towns) {
        HookUps x = new HookUps();
        for (int town = 0; town < towns; town++) {
            x.town();
        }
        return x;
    }

    /** STATIONS of ZONE 0 and POWER 10 in one TOWN. */
    static HookUps stations(int stations) {
        HookUps x = towns(1);
        for (int station = 0; station < stations; station++) {
            x.station(0, 0, 10);
        }
        return x;
    }

    /** STATIONS in one TOWN, members of NETWORK 0 from DAY 0 on, which clears all. */
    static HookUps members(int stations) {
        HookUps x = stations(stations);
        for (int station = 0; station < stations; station++) {
            x.join(station, 0, 0);
        }
        Due.contract(x, 0, "clear;");
        return x;
    }

    /** TOWNS with a STATION each, members of NETWORK 0 from DAY 0 on, which clears all. */
    static HookUps townsWithMembers(int towns) {
        HookUps x = towns(towns);
        for (int town = 0; town < towns; town++) {
            x.station(town, 0, 10);
            x.join(town, 0, 0);
        }
        Due.contract(x, 0, "clear;");
        return x;
    }

    /** An HOUR of NETWORK 0 that is KEPT, from TOWN 0, one SLOT long. */
    static int kept(HookUps x, int day, int slot) {
        return x.hour(0, day, slot, 1, 0, 0, 0);
    }

    static String times(String text, int n) {
        return text.repeat(n);
    }

    /** All words of the promises and terms are held by a test, or told to be plain; and all that is told stands there. */
    static void cover(Path document) throws IOException {
        Map<String, String> parts = parts(Files.readString(document));
        Map<String, boolean[]> held = new TreeMap<>();
        parts.forEach((where, text) -> held.put(where, new boolean[text.length()]));
        for (Words words : TOLD) {
            String part = parts.getOrDefault(words.where(), "");
            Due.due(words.where() + " has '" + words.text() + "'", part.contains(words.text()), true);
            for (int at = part.indexOf(words.text()); at >= 0; at = part.indexOf(words.text(), at + 1)) {
                for (int k = at; k < at + words.text().length(); k++) {
                    held.get(words.where())[k] = true;
                }
            }
        }
        parts.forEach((where, text) -> Due.due(where + ", no test holds '" + left(text, held.get(where)) + "'",
            left(text, held.get(where)).isEmpty(), true));
        Due.due("promises", parts.keySet().stream().filter(where -> where.startsWith("Promise")).count(), 39);
        System.out.println(tests + " boundary cases");
    }

    /** The parts of the document by their names, each as one line without its signature. */
    private static Map<String, String> parts(String document) {
        Map<String, String> parts = new TreeMap<>();
        for (String section : document.split("\n## ")) {
            String title = section.substring(0, section.indexOf('\n'));
            String text = section.substring(section.indexOf('\n'));
            if (title.startsWith("Promise ")) {
                parts.put(title.substring(0, title.indexOf(':')), oneLine(text.replaceFirst("`[^`]*`:", "")));
            } else if (title.equals("Terms")) {
                String[] terms = text.substring(0, text.indexOf("\nThe constants:")).split("\n(?=\\d\\. )");
                for (int k = 1; k < terms.length; k++) {
                    parts.put("Terms " + k, oneLine(terms[k].substring(3).replaceAll("```(text)?", "")));
                }
            }
        }
        return parts;
    }

    private static String oneLine(String text) {
        return text.replaceAll("\\s+", " ").trim();
    }

    /** The words that are not held, but for those that only join others. */
    private static String left(String text, boolean[] held) {
        StringBuilder left = new StringBuilder();
        Matcher word = Pattern.compile("[A-Za-z0-9]+").matcher(text);
        while (word.find()) {
            boolean whole = true;
            for (int k = word.start(); k < word.end(); k++) {
                whole &= held[k];
            }
            if (!whole && !word.group().equals("or")) {
                left.append(left.length() == 0 ? "" : " ").append(word.group());
            }
        }
        return left.toString();
    }
}
