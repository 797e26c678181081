/** What the tests share: counting wrong answers, and writing a text on the tape. */
final class Due {
    private static int wrong = 0;
    private static int asked = 0;

    private Due() {
    }

    static void due(String call, long got, long want) {
        asked++;
        if (got != want) {
            wrong++;
            System.out.println(call + " answered " + got + ", due is " + want);
        }
    }

    static void due(String call, boolean got, boolean want) {
        due(call, got ? 1 : 0, want ? 1 : 0);
    }

    static int asked() {
        return asked;
    }

    static void finish() {
        System.out.println(asked + " answers, " + wrong + " wrong");
        if (wrong != 0) {
            System.exit(1);
        }
    }

    /** Puts a text behind what the tape has, which must be a whole number of feeds away from 500. */
    static void type(HookUps x, String text) {
        int had = x.feed(0, 0, 0, 0, 0) - 20;
        x.end(had);
        for (int at = 0; at < text.length(); at += 20) {
            x.feed(four(text, at), four(text, at + 4), four(text, at + 8), four(text, at + 12), four(text, at + 16));
        }
        x.end(had + text.length());
    }

    private static int four(String text, int at) {
        int number = 0;
        for (int k = at; k < at + 4; k++) {
            number = number << 8 | (k < text.length() ? text.charAt(k) & 255 : 0);
        }
        return number;
    }

    /** Reads a text as the CONTRACT of a NETWORK. */
    static int contract(HookUps x, int network, String text) {
        type(x, text);
        return x.contract(network);
    }

    static void dueFault(HookUps x, String text, int fault, int place) {
        due("contract of '" + text + "'", contract(x, 0, text), -1);
        due("fault(0) of '" + text + "'", x.fault(0), fault);
        due("fault(1) of '" + text + "'", x.fault(1), place);
    }

    static void dueLines(HookUps x, String text, int lines) {
        due("contract of '" + text + "'", contract(x, 0, text), lines);
        due("fault(0) of '" + text + "'", x.fault(0), 0);
        due("fault(1) of '" + text + "'", x.fault(1), -1);
        due("count(10) after '" + text + "'", x.count(10), lines);
    }
}
