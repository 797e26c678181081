/** Boundary cases of promises 16 to 19: the tape, texts that are taken, FAULTS. */
final class EdgesOfTapes extends Edge {
    private static final String FOUR = "if sold and sold and sold and sold";

    static void run() {
        feeds();
        ends();
        contracts();
        tokens();
        texts();
        faults();
    }

    private static void taken(String text, int lines) {
        HookUps x = new HookUps();
        due("LINES of '" + text + "'", Due.contract(x, 0, text), lines);
        due("fault(0) of '" + text + "'", x.fault(0), 0);
        none("fault(1) of '" + text + "'", x.fault(1));
        due("count(10) of '" + text + "'", x.count(10), lines);
    }

    private static void faulty(String text, int fault, int place) {
        HookUps x = new HookUps();
        none("LINES of '" + text + "'", Due.contract(x, 0, text));
        due("fault(0) of '" + text + "'", x.fault(0), fault);
        due("fault(1) of '" + text + "'", x.fault(1), place);
        due("count(10) of '" + text + "'", x.count(10), 0);
    }

    private static HookUps fed(int feeds) {
        HookUps x = new HookUps();
        for (int k = 0; k < feeds; k++) {
            x.feed(0x20202020, 0x20202020, 0x20202020, 0x20202020, 0x20202020);
        }
        return x;
    }

    private static void feeds() {
        plain(promise(16, "The tape:"));
        holds(EdgesOfTapes::p16TwentyBytes, promise(16, "twenty bytes come behind it"), promise(16, "how many it has."));
        holds(EdgesOfTapes::p16HighestFirst, promise(16, "of each number the highest first:"));
        holds(EdgesOfTapes::p16MoreThan500, promise(16, "NONE"), promise(16, "if there would be more than 500."),
            terms(2, "THE TAPE has at most 500 bytes."));
        holds(EdgesOfTapes::p16NothingComes, promise(16, "and nothing comes,"));
    }

    private static void p16TwentyBytes() {
        HookUps x = new HookUps();
        due("behind none", x.feed(0, 0, 0, 0, 0), 20);
        due("behind 20", x.feed(MIN, MAX, -1, 1, 0), 40);
        x.end(1);
        due("behind 1", x.feed(0, 0, 0, 0, 0), 21);
        x.end(0);
        due("behind none again", x.feed(0, 0, 0, 0, 0), 20);
    }

    private static void p16HighestFirst() {
        HookUps x = new HookUps();
        // "if s" "old:" "pay " "1234" ";   "
        x.feed(0x69662073, 0x6f6c643a, 0x70617920, 0x31323334, 0x3b202020);
        due("a LINE", x.contract(0), 1);
        // A byte above 127 makes a number below 0: "clear" and byte 255.
        x.feed(0x636c6561, 0x72ff3b20, 0, 0, 0);
        none("byte 255", x.contract(0));
        due("byte 255", x.fault(1), 5);
        x.feed(0xff636c65, 0x61723b20, 0, 0, 0);
        none("byte 255 first", x.contract(0));
        due("byte 255 first", x.fault(1), 0);
        // Only the last byte of the last number is wrong.
        x.feed(0x20202020, 0x20202020, 0x20202020, 0x20202020, 0x20202021);
        none("the 20th byte", x.contract(0));
        due("the 20th byte", x.fault(1), 19);
    }

    private static void p16MoreThan500() {
        HookUps x = fed(24);
        due("up to 500", x.feed(0, 0, 0, 0, 0), 500);
        none("501 and more", x.feed(0, 0, 0, 0, 0));
        due("500 still", x.end(500), 500);
        due("481", x.end(481), 481);
        none("501", x.feed(0, 0, 0, 0, 0));
        due("480", x.end(480), 480);
        due("500", x.feed(0, 0, 0, 0, 0), 500);
        // As many tokens as bytes, and one as long as the tape.
        faulty(times(";", 500), 1, 0);
        faulty(times("c", 500), 1, 0);
        faulty(times("1", 500), 1, 0);
        taken(times("if week<7:pay 1234;", 16) + times(" ", 196), 16);
    }

    private static void p16NothingComes() {
        HookUps x = fed(25);
        x.end(490);
        none("510", x.feed(-1, -1, -1, -1, -1));
        none("it has no more than 490", x.end(491));
        due("490 as they were", x.end(490), 490);
        due("all blanks", x.contract(0), 0);
    }

    private static void ends() {
        holds(EdgesOfTapes::p17NoneAndAll, promise(17, "The tape has its first n bytes alone: n."));
        holds(EdgesOfTapes::p17NotSoMany, promise(17, "NONE if it has not so many"));
        holds(EdgesOfTapes::p17Below0, promise(17, "or n is below 0."));
    }

    private static void p17NoneAndAll() {
        HookUps x = new HookUps();
        due("none of none", x.end(0), 0);
        x = fed(25);
        due("all of 500", x.end(500), 500);
        due("all but one", x.end(499), 499);
        due("none of them", x.end(0), 0);
        Due.type(x, "clear;!");
        x.end(6);
        due("the first six alone", x.contract(0), 1);
    }

    private static void p17NotSoMany() {
        HookUps x = new HookUps();
        none("one of none", x.end(1));
        x.feed(0, 0, 0, 0, 0);
        none("21 of 20", x.end(21));
        none("as many as can be", x.end(MAX));
        due("20 still", x.end(20), 20);
        x.end(7);
        none("what is cut does not come again", x.end(8));
        due("7 still", x.end(7), 7);
    }

    private static void p17Below0() {
        HookUps x = fed(1);
        none("-1", x.end(-1));
        none("as low as can be", x.end(MIN));
        due("20 still", x.end(20), 20);
    }

    private static void contracts() {
        holds(EdgesOfTapes::p18EmptyThen, promise(18, "The tape is taken (and is empty then),"));
        holds(EdgesOfTapes::p18FromNowOn, promise(18, "as CONTRACT of a NETWORK from now on:"),
            terms(2, "A CONTRACT of a NETWORK is a text."));
        holds(EdgesOfTapes::p18HowManyLines, promise(18, "how many LINES."));
        holds(EdgesOfTapes::p18Fault, promise(18, "NONE: a FAULT."));
        holds(EdgesOfTapes::p18NoSuchNetwork, promise(18, "-2: there is none such"));
        holds(EdgesOfTapes::p18NoTextIsRead, promise(18, "(no text is read then, FAULT 0)."));
    }

    private static void p18EmptyThen() {
        HookUps x = new HookUps();
        Due.contract(x, 0, "clear;");
        none("behind a text", x.end(1));
        Due.contract(x, 0, "clear");
        none("behind a FAULT", x.end(1));
        due("behind a FAULT", x.feed(0, 0, 0, 0, 0), 20);
        x.end(0);
        Due.contract(x, 3, "clear;");
        none("without such a NETWORK", x.end(1));
        due("without such a NETWORK", x.feed(0, 0, 0, 0, 0), 20);
        HookUps y = fed(25);
        due("of 500 bytes", y.contract(0), 0);
        due("behind 500 bytes", y.feed(0, 0, 0, 0, 0), 20);
    }

    private static void p18FromNowOn() {
        HookUps x = stations(1);
        for (int network = 0; network < 3; network++) {
            x.hour(network, 0, network, 1, 0, 0, 0);
        }
        due("of NETWORK 2", Due.contract(x, 2, "clear;"), 1);
        due("of NETWORK 0", Due.contract(x, 0, "pay 1;clear;"), 2);
        due("NETWORK 0", x.clears(0, 0, 0), true);
        due("NETWORK 1 has none", x.clears(0, 1, 0), false);
        due("NETWORK 2", x.clears(0, 2, 0), true);
        due("anew", Due.contract(x, 2, "refuse;"), 1);
        due("NETWORK 2 anew", x.clears(0, 2, 0), false);
        due("the empty text", x.contract(0), 0);
        due("NETWORK 0 by the empty text", x.clears(0, 0, 0), false);
        none("no LINE", x.why(0, 0, 0, true));
    }

    private static void p18HowManyLines() {
        taken("", 0);
        taken("clear;", 1);
        taken(times("clear;", 15), 15);
        taken(times("clear;", 16), 16);
    }

    private static void p18Fault() {
        HookUps x = new HookUps();
        due("two LINES", Due.contract(x, 1, "clear;pay 1;"), 2);
        none("a FAULT at the end", Due.contract(x, 1, "clear"));
        due("the earlier CONTRACT stays", x.count(11), 2);
        none("one too many", Due.contract(x, 1, times("clear;", 17)));
        due("the earlier CONTRACT stays", x.count(11), 2);
    }

    private static void p18NoSuchNetwork() {
        HookUps x = new HookUps();
        refuses("NETWORK", -2, 0, 2, network -> Due.contract(x, network, "clear;"));
        due("none has it", x.count(10) + x.count(11) + x.count(12), 0);
        takes("NETWORK", 0, 2, network -> Due.contract(x, network, "clear;") == 1);
    }

    private static void p18NoTextIsRead() {
        HookUps x = new HookUps();
        Due.contract(x, 0, "clear");
        due("a FAULT", x.fault(0), 1);
        due("a text with a FAULT", Due.contract(x, 3, "nonsense"), -2);
        due("FAULT 0", x.fault(0), 0);
        none("no place", x.fault(1));
        Due.contract(x, 0, "clear");
        due("the empty text", x.contract(-1), -2);
        due("FAULT 0", x.fault(0), 0);
        none("no place", x.fault(1));
    }

    private static void tokens() {
        holds(EdgesOfTapes::t2AsLongAsTheyGo, terms(2, "TOKENS, as long as they go,"));
        holds(EdgesOfTapes::t2Blanks, terms(2, "blanks (10, 32) between:"));
        holds(EdgesOfTapes::t2Words, terms(2, "WORDS, rows of letters a .. z;"));
        holds(EdgesOfTapes::t2Numbers, terms(2, "NUMBERS, 1 to 4 digits;"));
        holds(EdgesOfTapes::t2Signs, terms(2, "signs : ; < > = one byte each."));
    }

    private static void t2AsLongAsTheyGo() {
        faulty("clearclear;", 1, 0);
        faulty("ifsold:clear;", 1, 0);
        faulty("if notsold:clear;", 1, 3);
        faulty("if sold andsold:clear;", 1, 8);
        faulty("clear refuse;", 1, 6);
        taken("pay1;", 1);
        taken("if slot<5and sold:clear;", 1);
    }

    private static void t2Blanks() {
        taken("\n \n", 0);
        taken("\nif not slot < 5\nand sold : pay 7 ; ", 1);
        taken("if not slot<5 and sold:pay 7;", 1);
        faulty("clear\r;", 1, 5);
        faulty("clear\t;", 1, 5);
        faulty("clear;" + (char) 0, 1, 6);
        faulty((char) 11 + "clear;", 1, 0);
        faulty("clear;" + (char) 33, 1, 6);
        faulty("clear;" + (char) 31, 1, 6);
        faulty("clear;" + (char) 9, 1, 6);
        faulty("clear;" + (char) 160, 1, 6);
        faulty("cle ar;", 1, 0);
        faulty("pay 1 2;", 1, 6);
    }

    private static void t2Words() {
        faulty("Clear;", 1, 0);
        faulty("cleaR;", 1, 0);
        faulty("clear{;", 1, 5);
        faulty("clear`;", 1, 5);
        faulty("clear" + (char) 225 + ";", 1, 5);
        faulty("a;", 1, 0);
        faulty("z;", 1, 0);
        faulty("clea;", 1, 0);
        faulty("clearz;", 1, 0);
        faulty(times("a", 500), 1, 0);
        taken("if sort=1:clear;", 1);
        faulty("if sor=1:clear;", 1, 3);
        faulty("if sorts=1:clear;", 1, 3);
    }

    private static void t2Numbers() {
        taken("pay 0;", 1);
        taken("pay 9;", 1);
        taken("pay 9999;", 1);
        taken("pay 0000;", 1);
        taken("if slot<9999 and slot>0:clear;", 1);
        faulty("pay 10000;", 1, 4);
        faulty("pay 00000;", 1, 4);
        faulty("pay ;", 1, 4);
        faulty("pay /;", 1, 4);
        faulty("pay -1;", 1, 4);
        faulty("pay 1/;", 1, 5);
        faulty("pay 1.0;", 1, 5);
    }

    private static void t2Signs() {
        taken("if slot<1:clear;if slot>1:clear;if slot=1:clear;", 3);
        faulty("if slot<=1:clear;", 1, 8);
        faulty("if slot==1:clear;", 1, 8);
        faulty("if sold::clear;", 1, 8);
        faulty("clear;;", 1, 6);
        faulty("if slot?1:clear;", 1, 7);
        faulty("if slot!1:clear;", 1, 7);
        // No sign stands for another.
        for (char sign : new char[] {':', ';', '<', '>', '='}) {
            if (sign == ':' || sign == ';') {
                faulty("if slot" + sign + "1:clear;", 1, 7);
            }
            if (sign != ':') {
                faulty("if slot<1" + sign + "clear;", 1, 9);
            }
            if (sign != ';') {
                faulty("if slot<1:clear" + sign, 1, 15);
            }
        }
    }

    private static void texts() {
        holds(EdgesOfTapes::t2Text, terms(2, "TEXT: {LINE}."));
        holds(EdgesOfTapes::t2Line, terms(2, "LINE: ['if' TEST {'and' TEST} ':'] ('clear' | 'refuse' | 'pay' NUMBER) ';'."));
        holds(EdgesOfTapes::t2Test, terms(2, "TEST: ['not'] (('sold' | 'summer') | ('slot' | 'power' | 'notice' | 'zone'"
            + " | 'sort' | 'long' | 'week') ('<' | '>' | '=') NUMBER)."));
    }

    private static void t2Text() {
        taken("", 0);
        taken(" ", 0);
        taken("clear;refuse;pay 1;", 3);
        taken(times(" ", 494) + "clear;", 1);
        taken("clear;" + times("\n", 494), 1);
    }

    private static void t2Line() {
        taken("if sold:clear;", 1);
        taken("if sold and sold:refuse;", 1);
        faulty("if:clear;", 1, 2);
        faulty("if sold clear;", 1, 8);
        faulty("if sold and:clear;", 1, 11);
        faulty("if and sold:clear;", 1, 3);
        faulty("if sold sold:clear;", 1, 8);
        faulty("if sold:if sold:clear;", 1, 8);
        faulty("sold:clear;", 1, 0);
        faulty(":clear;", 1, 0);
        faulty("if sold:;", 1, 8);
        faulty(";", 1, 0);
        faulty("clear 1;", 1, 6);
        faulty("pay;", 1, 3);
        faulty("pay clear;", 1, 4);
    }

    private static void t2Test() {
        String[] numbered = {"slot", "power", "notice", "zone", "sort", "long", "week"};
        for (String word : numbered) {
            taken("if not " + word + "=0:clear;", 1);
            faulty("if " + word + ":clear;", 1, 3 + word.length());
            faulty("if " + word + "<:clear;", 1, 4 + word.length());
        }
        taken("if not sold and not summer:clear;", 1);
        faulty("if sold=1:clear;", 1, 7);
        faulty("if summer=1:clear;", 1, 9);
        faulty("if not:clear;", 1, 6);
        faulty("if not not sold:clear;", 1, 7);
        faulty("if 1=slot:clear;", 1, 3);
        faulty("if clear:clear;", 1, 3);
    }

    private static void faults() {
        holds(EdgesOfTapes::p19LatestContract, promise(19, "Of the latest contract(), what 0: the FAULT, 0 without,"));
        holds(EdgesOfTapes::p19NoPlace, promise(19, "1: its place, NONE without."));
        holds(EdgesOfTapes::p19AnotherWhat, promise(19, "NONE for another what."));
        holds(EdgesOfTapes::t2Places, terms(2, "FAULTS, with places (a token's first byte;"));
        holds(EdgesOfTapes::t2PlaceOfTheEnd, terms(2, "the end's):"));
        holds(EdgesOfTapes::t2FirstThatGoesNotOn, terms(2, "1 the first byte or token with which no text goes on"));
        holds(EdgesOfTapes::t2LongerRow, terms(2, "(a longer row of digits is no token)."));
        holds(EdgesOfTapes::t2IfThereIsNone, terms(2, "If there is none:"));
        holds(EdgesOfTapes::t2Line17, terms(2, "3 one too many, at its first token: a 17th LINE,"));
        holds(EdgesOfTapes::t2Test5, terms(2, "a 5th TEST of a LINE."));
        holds(EdgesOfTapes::t2TheFirstTooMany, terms(2, "3 one too many, at its first token:"));
    }

    private static void p19LatestContract() {
        HookUps x = new HookUps();
        due("without any contract()", x.fault(0), 0);
        Due.contract(x, 0, "!");
        due("FAULT 1", x.fault(0), 1);
        Due.contract(x, 1, times("clear;", 17));
        due("FAULT 3", x.fault(0), 3);
        due("asked again", x.fault(0), 3);
        Due.type(x, "!!!");
        due("a tape that is not taken", x.fault(0), 3);
        x.contract(0);
        due("FAULT 1", x.fault(0), 1);
        Due.contract(x, 2, "clear;");
        due("without one, of another NETWORK", x.fault(0), 0);
    }

    private static void p19NoPlace() {
        HookUps x = new HookUps();
        none("without any contract()", x.fault(1));
        Due.contract(x, 0, "!");
        due("place 0", x.fault(1), 0);
        Due.contract(x, 0, "");
        none("without a FAULT", x.fault(1));
    }

    private static void p19AnotherWhat() {
        HookUps x = new HookUps();
        Due.contract(x, 0, "clear");
        refuses("what", -1, 0, 1, what -> x.fault(what));
    }

    private static void t2Places() {
        faulty("!", 1, 0);
        faulty("  nonsense;", 1, 2);
        faulty("clear;\n\n nonsense;", 1, 9);
        faulty(times(" ", 499) + "!", 1, 499);
        faulty(times(" ", 492) + "nonsense", 1, 492);
        faulty(times(" ", 496) + "clea", 1, 496);
    }

    private static void t2PlaceOfTheEnd() {
        faulty("clear", 1, 5);
        faulty("clear ", 1, 6);
        faulty("if", 1, 2);
        faulty("if sold:", 1, 8);
        faulty("if slot", 1, 7);
        faulty("if slot<", 1, 8);
        faulty("if slot<1", 1, 9);
        faulty("pay", 1, 3);
        faulty("pay 1", 1, 5);
        faulty(times(" ", 495) + "clear", 1, 500);
        faulty("clear" + times(" ", 495), 1, 500);
    }

    private static void t2FirstThatGoesNotOn() {
        faulty("clear! nonsense", 1, 5);
        faulty("clear;nonsense!", 1, 6);
        faulty("clear; 5", 1, 7);
        faulty("if if", 1, 3);
        faulty("if sold and clear", 1, 12);
        faulty("cle!r;", 1, 0);
    }

    private static void t2LongerRow() {
        taken("pay 1234;", 1);
        faulty("pay 12345;", 1, 4);
        faulty("if slot=12345:clear;", 1, 8);
        faulty("pay " + times("9", 496), 1, 4);
        faulty("pay 1 23456;", 1, 6);
        faulty("12345", 1, 0);
    }

    private static void t2IfThereIsNone() {
        faulty(times("clear;", 17), 3, 96);
        faulty(times("clear;", 17) + "!", 1, 102);
        faulty(times("clear;", 17) + "clear", 1, 107);
        faulty(times("clear;", 16) + "!", 1, 96);
        faulty(times("clear;", 16) + "clear", 1, 101);
        faulty(FOUR + " and sold:clear;!", 1, FOUR.length() + 16);
        faulty(FOUR + " and sold clear;", 1, FOUR.length() + 10);
        faulty(FOUR + " and !:clear;", 1, FOUR.length() + 5);
    }

    private static void t2Line17() {
        taken(times("clear;", 16) + " \n", 16);
        faulty(times("clear;", 16) + " \nclear;", 3, 98);
        faulty(times("clear;", 16) + "if sold:clear;", 3, 96);
        faulty(times("pay 1;", 16) + "pay 1;", 3, 96);
        faulty(times("pay 1;", 83), 3, 96);
    }

    private static void t2Test5() {
        taken(FOUR + ":clear;", 1);
        taken(FOUR + ":clear;" + FOUR + ":clear;", 2);
        faulty(FOUR + " and sold:clear;", 3, FOUR.length() + 5);
        faulty(FOUR + " and\nnot sold:clear;", 3, FOUR.length() + 5);
        faulty(FOUR + " and  slot<1:clear;", 3, FOUR.length() + 6);
        faulty(FOUR + " and sold and sold:clear;", 3, FOUR.length() + 5);
        faulty("clear;" + FOUR + " and sold:clear;", 3, FOUR.length() + 11);
    }

    private static void t2TheFirstTooMany() {
        faulty(FOUR + " and sold:clear;" + times("clear;", 16), 3, FOUR.length() + 5);
        faulty(times("clear;", 15) + FOUR + " and sold:clear;clear;", 3, 90 + FOUR.length() + 5);
        faulty(times("clear;", 16) + FOUR + " and sold:clear;", 3, 96);
    }
}
