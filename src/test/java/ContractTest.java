/** Promises 16 to 21: the tape, CONTRACTS, their FAULTS, and what their LINES tell. */
public final class ContractTest {
    public static void main(String[] args) {
        promise16Feed();
        promise17End();
        promise18Contract();
        promise18Blanks();
        promise19Faults();
        promise19Limits();
        promise20Clears();
        promise21Why();
        everyTest();
        Due.finish();
    }

    private static void promise16Feed() {
        HookUps x = new HookUps();
        for (int k = 1; k <= 25; k++) {
            Due.due("feed", x.feed(k, -1, 0, 1 << 31, 5), 20 * k);
        }
        Due.due("beyond 500", x.feed(0, 0, 0, 0, 0), -1);
        x.end(481);
        Due.due("beyond 500", x.feed(0, 0, 0, 0, 0), -1);
        Due.due("as it was", x.end(481), 481);
        x.end(480);
        Due.due("up to 500", x.feed(0, 0, 0, 0, 0), 500);
        // The highest byte first: "pay 1234;clear;if sold:..."
        x.end(0);
        x.feed(0x70617920, 0x31323334, 0x3b636c65, 0x61723b70, 0x61792037);
        x.feed(0x3b000000, 0, 0, 0, 0);
        x.end(21);
        Due.due("three lines", x.contract(0), 3);
    }

    private static void promise17End() {
        HookUps x = new HookUps();
        Due.due("end(0) of none", x.end(0), 0);
        Due.due("end(1) of none", x.end(1), -1);
        Due.due("end(-1)", x.end(-1), -1);
        x.feed(0, 0, 0, 0, 0);
        Due.due("end(21)", x.end(21), -1);
        Due.due("end(20)", x.end(20), 20);
        Due.due("end(7)", x.end(7), 7);
        Due.due("end(8)", x.end(8), -1);
        Due.due("feed behind", x.feed(0, 0, 0, 0, 0), 27);
        Due.due("end(min)", x.end(Integer.MIN_VALUE), -1);
        Due.due("end(max)", x.end(Integer.MAX_VALUE), -1);
    }

    private static void promise18Contract() {
        HookUps x = new HookUps();
        Due.dueLines(x, "clear;", 1);
        Due.due("the tape is empty then", x.end(1), -1);
        Due.dueLines(x, "if not sold and summer and slot<1 and power>2:refuse;pay 0;pay 9999;", 3);
        Due.dueLines(x, "if notice=3 and zone=0 and sort=7 and long=4:pay 5;if week=6:clear;", 2);
        Due.dueFault(x, "clear", 1, 5);
        Due.due("the tape is empty then", x.end(1), -1);
        Due.due("the CONTRACT stays", x.count(10), 2);
        Due.type(x, "bad");
        Due.due("contract(0)", x.contract(0), -1);
        Due.due("fault", x.fault(0), 1);
        Due.type(x, "clear;");
        Due.due("contract(3)", x.contract(3), -2);
        Due.due("no fault", x.fault(0), 0);
        Due.due("no place", x.fault(1), -1);
        Due.due("the tape is empty then", x.end(1), -1);
        Due.due("contract(2) of the empty tape", x.contract(2), 0);
        Due.type(x, "bad");
        Due.due("contract(-1)", x.contract(-1), -2);
        Due.due("no text is read", x.fault(0), 0);
        Due.due("the tape is empty then", x.feed(0, 0, 0, 0, 0), 20);
        Due.due("contract(max)", x.contract(Integer.MAX_VALUE), -2);
        Due.due("contract(min)", x.contract(Integer.MIN_VALUE), -2);
        Due.due("the CONTRACT stays", x.count(10), 2);
        Due.due("contract(2)", Due.contract(x, 2, "clear;"), 1);
        Due.due("contract of nothing", x.contract(0), 0);
        Due.due("LINES", x.count(10), 0);
        Due.due("of the other", x.count(12), 1);
    }

    private static void promise18Blanks() {
        HookUps x = new HookUps();
        Due.dueLines(x, " \n clear \n ; \n", 1);
        Due.dueLines(x, "   ", 0);
        Due.dueLines(x, "pay5;pay 7 ;", 2);
        Due.dueLines(x, "if slot<5and power>6:clear;", 1);
        Due.dueLines(x, "if\nnot\nslot\n=\n0012\n:\nrefuse\n;", 1);
        Due.dueFault(x, "ifsold:clear;", 1, 0);
        Due.dueFault(x, "clear;\t", 1, 6);
        Due.dueFault(x, "clear  ", 1, 7);
        Due.dueFault(x, "cl ear;", 1, 0);
        Due.dueFault(x, "pay 1 2;", 1, 6);
    }

    private static void promise19Faults() {
        HookUps x = new HookUps();
        Due.dueFault(x, ";", 1, 0);
        Due.dueFault(x, "clear;;", 1, 6);
        Due.dueFault(x, "Clear;", 1, 0);
        Due.dueFault(x, "cle!r;", 1, 0);
        Due.dueFault(x, "clear!;", 1, 5);
        Due.dueFault(x, "clearx;", 1, 0);
        Due.dueFault(x, "clea;", 1, 0);
        Due.dueFault(x, "clear" + (char) 200 + ";", 1, 5);
        Due.dueFault(x, "clear" + (char) 0 + ";", 1, 5);
        Due.dueFault(x, "if", 1, 2);
        Due.dueFault(x, "if ", 1, 3);
        Due.dueFault(x, "if:clear;", 1, 2);
        Due.dueFault(x, "if clear;", 1, 3);
        Due.dueFault(x, "if not:clear;", 1, 6);
        Due.dueFault(x, "if not not sold:clear;", 1, 7);
        Due.dueFault(x, "if sold clear;", 1, 8);
        Due.dueFault(x, "if sold and and sold:clear;", 1, 12);
        Due.dueFault(x, "if sold and:clear;", 1, 11);
        Due.dueFault(x, "if sold=1:clear;", 1, 7);
        Due.dueFault(x, "if slot:clear;", 1, 7);
        Due.dueFault(x, "if slot 5:clear;", 1, 8);
        Due.dueFault(x, "if slot<:clear;", 1, 8);
        Due.dueFault(x, "if slot<=5:clear;", 1, 8);
        Due.dueFault(x, "if slot<12345:clear;", 1, 8);
        Due.dueFault(x, "if slot<99999999999999999999:clear;", 1, 8);
        Due.dueFault(x, "if 5<slot:clear;", 1, 3);
        Due.dueFault(x, "if sold::clear;", 1, 8);
        Due.dueFault(x, "if sold:if sold:clear;", 1, 8);
        Due.dueFault(x, "if sold:", 1, 8);
        Due.dueFault(x, "and sold:clear;", 1, 0);
        Due.dueFault(x, "not sold:clear;", 1, 0);
        Due.dueFault(x, "sold:clear;", 1, 0);
        Due.dueFault(x, "pay;", 1, 3);
        Due.dueFault(x, "pay", 1, 3);
        Due.dueFault(x, "pay x;", 1, 4);
        Due.dueFault(x, "pay 5", 1, 5);
        Due.dueFault(x, "pay 12345;", 1, 4);
        Due.dueFault(x, "pay -1;", 1, 4);
        Due.dueFault(x, "clear;refuse", 1, 12);
        Due.dueFault(x, "clear refuse;", 1, 6);
        Due.due("fault(2)", x.fault(2), -1);
        Due.due("fault(-1)", x.fault(-1), -1);
        Due.dueLines(x, "clear;", 1);
    }

    private static String times(String text, int n) {
        StringBuilder all = new StringBuilder();
        for (int k = 0; k < n; k++) {
            all.append(text);
        }
        return all.toString();
    }

    private static void promise19Limits() {
        HookUps x = new HookUps();
        String four = "if sold and sold and sold and sold";
        Due.dueLines(x, times("clear;", 16), 16);
        Due.dueFault(x, times("clear;", 17), 3, 96);
        Due.dueFault(x, times("clear;", 16) + "  if sold:clear;", 3, 98);
        Due.dueFault(x, times("clear;", 16) + four + " and sold:clear;", 3, 96);
        Due.dueFault(x, times("clear;", 17) + "clear", 1, 107);
        Due.dueFault(x, times("clear;", 16) + "pay", 1, 99);
        Due.dueLines(x, four + ":clear;", 1);
        Due.dueFault(x, four + " and  not sold:clear;", 3, four.length() + 6);
        Due.dueFault(x, four + " and slot<5 and sold:clear;", 3, four.length() + 5);
        Due.dueFault(x, four + " and slot<:clear;", 1, four.length() + 10);
        Due.dueFault(x, "clear;" + four + " and sold:clear;" + times("pay 1;", 20), 3, four.length() + 11);
        Due.dueFault(x, four + " and sold:clear;" + four + ":;", 1, 2 * four.length() + 17);
        Due.dueLines(x, times("if sold:pay 1234;", 16), 16);
        Due.due("LINES stay", x.count(10), 16);
        Due.due("500 bytes", Due.contract(x, 0, times(" ", 494) + "clear;"), 1);
    }

    /** Stations of all four zones, which are members of nothing. */
    private static HookUps fourZones() {
        HookUps x = new HookUps();
        x.town();
        for (int zone = 0; zone < 4; zone++) {
            x.station(0, zone, 10 * zone + 10);
        }
        return x;
    }

    private static void promise20Clears() {
        HookUps x = fourZones();
        x.hour(0, 2, 3, 2, 0, 0, 1);
        Due.due("without a contract", x.clears(0, 0, 0), false);
        Due.contract(x, 0, "pay 7;");
        Due.due("by pay alone", x.clears(0, 0, 0), false);
        Due.contract(x, 0, "clear;refuse;");
        Due.due("clears", x.clears(0, 0, 0), true);
        Due.due("not sold to it, no member", x.clears(3, 0, 1), true);
        Due.due("slot 2 of it", x.clears(0, 0, 2), false);
        Due.due("slot -1 of it", x.clears(0, 0, -1), false);
        Due.due("station 4", x.clears(4, 0, 0), false);
        Due.due("station -1", x.clears(-1, 0, 0), false);
        Due.due("hour 1", x.clears(0, 1, 0), false);
        Due.due("hour -1", x.clears(0, -1, 0), false);
        Due.contract(x, 0, "refuse;clear;");
        Due.due("refuses", x.clears(0, 0, 0), false);
        Due.contract(x, 0, "if slot>4:refuse;if slot<3:refuse;clear;");
        Due.due("slot 3", x.clears(0, 0, 0), true);
        Due.due("slot 4", x.clears(0, 0, 1), true);
        Due.due("local slot 1", x.clears(1, 0, 0), false);
        Due.due("local slot 2", x.clears(1, 0, 1), false);
        x.summer(1, 2, 2);
        Due.due("local slot 3", x.clears(1, 0, 0), true);
        x.day(1);
        x.hour(0, 2, 3, 2, 0, 0, 1);
        Due.due("seen", x.clears(0, 1, 0), true);
        x.view(0);
        Due.due("not seen", x.clears(0, 1, 0), false);
        Due.due("the other is", x.clears(0, 0, 0), true);
    }

    private static void promise21Why() {
        HookUps x = fourZones();
        x.hour(1, 2, 3, 1, 0, 0, 0);
        Due.due("without a contract", x.why(0, 0, 0, false), -1);
        Due.due("without a contract", x.why(0, 0, 0, true), -1);
        Due.contract(x, 1, "if sold:pay 5;if sold:clear;pay 0;refuse;clear;pay 1;");
        Due.due("refuse tells it", x.why(0, 0, 0, false), 3);
        Due.due("pay 0 tells it", x.why(0, 0, 0, true), 2);
        Due.due("slot 1 of it", x.why(0, 0, 1, false), -1);
        Due.due("slot 1 of it", x.why(0, 0, 1, true), -1);
        Due.due("station 4", x.why(4, 0, 0, true), -1);
        Due.due("hour 1", x.why(0, 1, 0, true), -1);
        x.day(1);
        x.hour(1, 2, 3, 1, 0, 0, 2);
        Due.due("sold", x.why(0, 1, 0, false), 1);
        Due.due("sold", x.why(0, 1, 0, true), 0);
        x.view(0);
        Due.due("not seen", x.why(0, 1, 0, false), -1);
        Due.due("not seen", x.why(0, 1, 0, true), -1);
    }

    /** The first LINE that holds for station, with one LINE for each answer. */
    private static void dueTest(HookUps x, int station, int hour, int i, String test, boolean want) {
        Due.due("contract", Due.contract(x, 0, "if " + test + ":pay 1;pay 2;"), 2);
        Due.due(test + " of " + station + "," + hour + "," + i, x.why(station, hour, i, true), want ? 0 : 1);
        Due.due("contract", Due.contract(x, 0, "if not " + test + ":clear;refuse;"), 2);
        Due.due("not " + test + " of " + station + "," + hour + "," + i, x.clears(station, hour, i), !want);
    }

    private static void everyTest() {
        HookUps x = fourZones();
        x.summer(2, 5, 6);
        x.day(3);
        x.hour(0, 5, 2, 3, 0, 4, 8);
        x.hour(0, 0, 0, 1, 0, 0, 0);
        dueTest(x, 0, 0, 0, "sold", true);
        dueTest(x, 0, 1, 0, "sold", false);
        dueTest(x, 2, 0, 0, "summer", true);
        dueTest(x, 2, 1, 0, "summer", false);
        dueTest(x, 1, 0, 0, "summer", false);
        dueTest(x, 3, 0, 0, "slot=44", true);
        dueTest(x, 3, 0, 2, "slot=46", true);
        dueTest(x, 2, 0, 0, "slot=0", true);
        dueTest(x, 2, 0, 0, "slot<0", false);
        dueTest(x, 2, 0, 0, "slot<1", true);
        dueTest(x, 2, 0, 0, "slot>0", false);
        dueTest(x, 1, 0, 0, "power=20", true);
        dueTest(x, 1, 0, 0, "power>20", false);
        dueTest(x, 1, 0, 0, "power<21", true);
        dueTest(x, 1, 0, 0, "power>9999", false);
        dueTest(x, 0, 0, 0, "notice=2", true);
        dueTest(x, 0, 1, 0, "notice=0", true);
        dueTest(x, 3, 0, 0, "zone=3", true);
        dueTest(x, 3, 0, 0, "zone>2", true);
        dueTest(x, 3, 0, 0, "zone<3", false);
        dueTest(x, 0, 0, 0, "sort=4", true);
        dueTest(x, 0, 1, 0, "sort=4", false);
        dueTest(x, 0, 0, 2, "long=3", true);
        dueTest(x, 0, 1, 0, "long=1", true);
        dueTest(x, 0, 0, 0, "week=5", true);
        dueTest(x, 3, 0, 0, "week=4", true);
        dueTest(x, 3, 1, 0, "week=6", true);
        dueTest(x, 0, 1, 0, "week=0", true);
        dueTest(x, 2, 0, 0, "sold and summer", true);
        dueTest(x, 0, 0, 0, "zone=0003", false);
        Due.contract(x, 0, "if sold and summer and long=3 and not zone=1:pay 1;pay 2;");
        Due.due("all four hold", x.why(2, 0, 0, true), 0);
        Due.contract(x, 0, "if sold and summer and long=3 and not zone=2:pay 1;pay 2;");
        Due.due("the last does not", x.why(2, 0, 0, true), 1);
    }
}
