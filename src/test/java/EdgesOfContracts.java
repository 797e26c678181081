/** Boundary cases of promises 20 and 21: what the LINES of a CONTRACT tell. */
final class EdgesOfContracts extends Edge {
    static void run() {
        clearing();
        whys();
        tests();
        firstLines();
    }

    /** A word of a TEST is just this number: <, > and = are asked on both sides of it. */
    private static void dueValue(HookUps x, int station, int hour, int i, String word, int value) {
        String text = "if " + word + "<" + value + ":pay 0;if " + word + ">" + value + ":pay 0;if not " + word + "="
            + value + ":pay 0;if " + word + "<" + (value + 1) + (value > 0 ? " and " + word + ">" + (value - 1) : "")
            + ":pay 0;";
        due("contract", Due.contract(x, x.about(hour, 0), text), 4);
        due(word + " of " + station + ", " + hour + ", " + i + " is " + value, x.why(station, hour, i, true), 3);
    }

    private static void dueFlag(HookUps x, int station, int hour, int i, String word, boolean want) {
        Due.contract(x, x.about(hour, 0), "if " + word + ":pay 0;if not " + word + ":pay 0;");
        due(word + " of " + station + ", " + hour + ", " + i, x.why(station, hour, i, true), want ? 0 : 1);
    }

    private static void clearing() {
        holds(EdgesOfContracts::p20FirstAndLastSlot, promise(20, "Whether a STATION CLEARS an HOUR in the i-th SLOT of it,"
            + " from 0 on"));
        holds(EdgesOfContracts::p20MemberOrNot, promise(20, "(member or not, sold to it or not)."));
        holds(EdgesOfContracts::p20NoSuchStation, promise(20, "False, too, if there is none such"));
        holds(EdgesOfContracts::p20NoSuchHour, promise(20, "there is none such (of any;"));
        holds(EdgesOfContracts::p20NoSuchSlot, promise(20, "none such (of any;"));
        holds(EdgesOfContracts::p20ByTheView, promise(20, "HOURS by THE VIEW)."));
    }

    private static void p20FirstAndLastSlot() {
        HookUps x = stations(1);
        x.hour(0, 0, 44, 4, 0, 0, 0);
        Due.contract(x, 0, "if slot=44:clear;if slot=47:clear;");
        due("the first", x.clears(0, 0, 0), true);
        due("the second", x.clears(0, 0, 1), false);
        due("the last", x.clears(0, 0, 3), true);
    }

    private static void p20MemberOrNot() {
        HookUps x = stations(2);
        x.hour(1, 0, 0, 1, 0, 0, 1);
        Due.contract(x, 1, "clear;");
        due("no member, sold to it", x.clears(0, 0, 0), true);
        due("no member, not sold to it", x.clears(1, 0, 0), true);
        x.join(1, 1, 0);
        due("a member, not sold to it", x.clears(1, 0, 0), true);
        x.join(1, 2, 0);
        due("a member of another", x.clears(1, 0, 0), true);
        x.cut(-1, 0, 0, 0, 9);
        due("in a BREAK", x.clears(0, 0, 0), true);
    }

    private static void p20NoSuchStation() {
        HookUps x = members(2);
        kept(x, 0, 0);
        refuses("STATION", 0, 1, station -> x.clears(station, 0, 0));
        due("the last STATION", x.clears(1, 0, 0), true);
    }

    private static void p20NoSuchHour() {
        HookUps x = members(1);
        due("no HOUR at all", x.clears(0, 0, 0), false);
        kept(x, 0, 0);
        kept(x, 0, 0);
        refuses("HOUR", 0, 1, hour -> x.clears(0, hour, 0));
        due("the last HOUR", x.clears(0, 1, 0), true);
    }

    private static void p20NoSuchSlot() {
        HookUps x = members(1);
        for (int slots = 1; slots <= 4; slots++) {
            int hour = x.hour(0, 0, 0, slots, 0, 0, 0);
            refuses("i of " + slots, 0, slots - 1, i -> x.clears(0, hour, i));
            due("the last i", x.clears(0, hour, slots - 1), true);
        }
    }

    private static void p20ByTheView() {
        HookUps x = members(1);
        x.day(5);
        kept(x, 9, 0);
        x.view(4);
        due("told the DAY behind", x.clears(0, 0, 0), false);
        x.view(5);
        due("told on that DAY", x.clears(0, 0, 0), true);
        x.view(-1);
        due("NOW", x.clears(0, 0, 0), true);
    }

    private static void whys() {
        holds(EdgesOfContracts::p21FirstAndLastLine, promise(21, "The LINE that tells it, of those that clear and refuse, or"
            + " (pay true) the one that tells the PAY."));
        holds(EdgesOfContracts::p21NoLine, promise(21, "NONE: none"));
        holds(EdgesOfContracts::p21NoneSuch, promise(21, "or there is none such;"));
        holds(EdgesOfContracts::p21AsClears, promise(21, "as clears()."));
    }

    private static void p21FirstAndLastLine() {
        HookUps x = stations(1);
        kept(x, 0, 0);
        Due.contract(x, 0, "clear;pay 0;");
        due("LINE 0 clears", x.why(0, 0, 0, false), 0);
        due("LINE 1 pays 0", x.why(0, 0, 0, true), 1);
        Due.contract(x, 0, "pay 1;refuse;");
        due("LINE 0 pays", x.why(0, 0, 0, true), 0);
        due("LINE 1 refuses", x.why(0, 0, 0, false), 1);
        Due.contract(x, 0, times("if sold:clear;", 15) + "clear;");
        due("LINE 15, the last", x.why(0, 0, 0, false), 15);
        Due.contract(x, 0, times("clear;", 15) + "pay 9999;");
        due("LINE 15, the last", x.why(0, 0, 0, true), 15);
    }

    private static void p21NoLine() {
        HookUps x = stations(1);
        kept(x, 0, 0);
        none("no CONTRACT", x.why(0, 0, 0, false));
        none("no CONTRACT, pay", x.why(0, 0, 0, true));
        Due.contract(x, 0, "pay 1;");
        none("LINES pay alone", x.why(0, 0, 0, false));
        Due.contract(x, 0, "clear;refuse;");
        none("no LINE pay", x.why(0, 0, 0, true));
        Due.contract(x, 0, "if sold:clear;if sold:pay 1;");
        none("none whose TESTS hold", x.why(0, 0, 0, false));
        none("none whose TESTS hold, pay", x.why(0, 0, 0, true));
    }

    private static void p21NoneSuch() {
        HookUps x = members(2);
        Due.contract(x, 0, "clear;pay 1;");
        kept(x, 0, 0);
        for (int k = 0; k < 2; k++) {
            boolean pay = k == 1;
            refuses("STATION", -1, 0, 1, station -> x.why(station, 0, 0, pay));
            refuses("HOUR", -1, 0, 0, hour -> x.why(0, hour, 0, pay));
            refuses("i", -1, 0, 0, i -> x.why(0, 0, i, pay));
        }
    }

    private static void p21AsClears() {
        HookUps x = stations(2);
        x.day(3);
        x.hour(2, 5, 0, 1, 0, 0, 1);
        Due.contract(x, 2, "clear;pay 1;");
        due("no member, not sold to it", x.why(1, 0, 0, false), 0);
        due("no member, not sold to it, pay", x.why(1, 0, 0, true), 1);
        x.view(2);
        none("not in THE VIEW", x.why(0, 0, 0, false));
        none("not in THE VIEW, pay", x.why(0, 0, 0, true));
        x.view(3);
        due("in THE VIEW", x.why(0, 0, 0, false), 0);
    }

    private static void tests() {
        holds(EdgesOfContracts::t2Sold, terms(2, "A STATION and an HOUR, in a SLOT of it: sold: the HOUR is;"));
        holds(EdgesOfContracts::t2Summer, terms(2, "summer: that DAY lies in the SUMMER of its ZONE;"));
        holds(EdgesOfContracts::t2Slot, terms(2, "slot: its LOCAL SLOT;"));
        holds(EdgesOfContracts::t2PowerAndZone, terms(2, "power, zone: of the STATION;"));
        holds(EdgesOfContracts::t2Notice, terms(2, "notice: DAY of the HOUR less the DAY on which it was told,"));
        holds(EdgesOfContracts::t2NoticeBelow0, terms(2, "0 if below;"));
        holds(EdgesOfContracts::t2SortAndLong, terms(2, "sort, long (SLOTS): of the HOUR;"));
        holds(EdgesOfContracts::t2Week, terms(2, "week: LOCAL DAY and 7, remainder by 7."));
    }

    private static void t2Sold() {
        HookUps x = stations(8);
        x.hour(0, 0, 0, 1, 0, 0, 0);
        x.hour(0, 0, 0, 1, 0, 0, 128);
        dueFlag(x, 0, 0, 0, "sold", false);
        dueFlag(x, 7, 1, 0, "sold", true);
        dueFlag(x, 0, 1, 0, "sold", true);
    }

    private static void t2Summer() {
        HookUps x = towns(1);
        x.station(0, 3, 1);
        x.station(0, 2, 1);
        x.summer(3, 5, 6);
        int[] days = {4, 5, 6, 7};
        for (int k = 0; k < days.length; k++) {
            x.hour(0, days[k], 0, 1, 0, 0, 0);
            // SLOT 0 of DAY 5 is of LOCAL DAY 4, that of DAY 7 of LOCAL DAY 6.
            dueFlag(x, 0, k, 0, "summer", days[k] == 5 || days[k] == 6);
            dueFlag(x, 1, k, 0, "summer", false);
        }
    }

    private static void t2Slot() {
        HookUps x = towns(1);
        x.station(0, 3, 1);
        x.station(0, 0, 1);
        x.hour(0, 0, 4, 4, 0, 0, 0);
        dueValue(x, 0, 0, 0, "slot", 46);
        dueValue(x, 0, 0, 1, "slot", 47);
        dueValue(x, 0, 0, 2, "slot", 0);
        dueValue(x, 0, 0, 3, "slot", 1);
        x.summer(3, 0, 0);
        dueValue(x, 0, 0, 0, "slot", 0);
        x.summer(0, 199, 199);
        x.hour(0, 199, 44, 4, 0, 0, 0);
        dueValue(x, 1, 1, 1, "slot", 47);
        dueValue(x, 1, 1, 2, "slot", 0);
        dueValue(x, 1, 1, 3, "slot", 1);
    }

    private static void t2PowerAndZone() {
        HookUps x = towns(1);
        x.station(0, 0, 1);
        x.station(0, 3, 99);
        kept(x, 0, 0);
        dueValue(x, 0, 0, 0, "power", 1);
        dueValue(x, 1, 0, 0, "power", 99);
        dueValue(x, 0, 0, 0, "zone", 0);
        dueValue(x, 1, 0, 0, "zone", 3);
    }

    private static void t2Notice() {
        HookUps x = towns(1);
        x.station(0, 3, 1);
        x.hour(0, 199, 0, 1, 0, 0, 0);
        x.day(5);
        kept(x, 6, 0);
        x.day(6);
        dueValue(x, 0, 0, 0, "notice", 199);
        // It is of the DAY on which it was told, not of now, nor of the LOCAL DAY.
        dueValue(x, 0, 1, 0, "notice", 1);
    }

    private static void t2NoticeBelow0() {
        HookUps x = stations(1);
        x.day(199);
        kept(x, 199, 0);
        kept(x, 198, 0);
        kept(x, 0, 0);
        dueValue(x, 0, 0, 0, "notice", 0);
        dueValue(x, 0, 1, 0, "notice", 0);
        dueValue(x, 0, 2, 0, "notice", 0);
    }

    private static void t2SortAndLong() {
        HookUps x = stations(1);
        x.hour(0, 0, 0, 1, 0, 0, 0);
        x.hour(0, 0, 0, 4, 0, 7, 0);
        dueValue(x, 0, 0, 0, "sort", 0);
        dueValue(x, 0, 1, 0, "sort", 7);
        dueValue(x, 0, 0, 0, "long", 1);
        dueValue(x, 0, 1, 0, "long", 4);
        dueValue(x, 0, 1, 3, "long", 4);
    }

    private static void t2Week() {
        HookUps x = towns(1);
        x.station(0, 0, 1);
        x.station(0, 3, 1);
        int[] days = {0, 6, 7, 13, 199};
        for (int k = 0; k < days.length; k++) {
            x.hour(0, days[k], 4, 4, 0, 0, 0);
            dueValue(x, 0, k, 0, "week", days[k] % 7);
            // SLOTS 4 and 5 are of the LOCAL DAY ahead in ZONE 3, SLOT 6 is of that DAY.
            dueValue(x, 1, k, 1, "week", (days[k] + 6) % 7);
            dueValue(x, 1, k, 2, "week", days[k] % 7);
        }
        x.summer(0, 199, 199);
        int last = x.hour(0, 199, 44, 4, 0, 0, 0);
        dueValue(x, 0, last, 1, "week", 199 % 7);
        dueValue(x, 0, last, 2, "week", 200 % 7);
    }

    private static void firstLines() {
        holds(EdgesOfContracts::t2TheFirstTells, terms(2, "The first of the LINES clear and refuse whose TESTS all hold tells"
            + " whether it CLEARS"));
        holds(EdgesOfContracts::t2WithoutOneNot, terms(2, "(without one it does not);"));
        holds(EdgesOfContracts::t2TheFirstPay, terms(2, "the first LINE pay whose TESTS all hold tells the PAY"));
        holds(EdgesOfContracts::t2Pay0Without, terms(2, "(0 without)."));
    }

    private static void dueClears(String text, boolean want) {
        HookUps x = stations(1);
        x.hour(0, 0, 5, 2, 0, 3, 1);
        Due.contract(x, 0, text);
        due("'" + text + "'", x.clears(0, 0, 0), want);
    }

    private static void t2TheFirstTells() {
        dueClears("clear;refuse;", true);
        dueClears("refuse;clear;", false);
        dueClears("if not sold:refuse;clear;", true);
        dueClears("if not sold:clear;refuse;clear;", false);
        dueClears("pay 0;if slot=5 and sort=3 and long=2 and sold:clear;refuse;", true);
        dueClears("if slot=5 and sort=3 and long=2 and not sold:refuse;clear;", true);
        dueClears("if slot=4 and sort=3 and long=2 and sold:refuse;clear;", true);
        dueClears(times("if slot<5:refuse;", 15) + "clear;", true);
    }

    private static void t2WithoutOneNot() {
        dueClears("", false);
        dueClears("pay 1;", false);
        dueClears("if not sold:refuse;", false);
        dueClears("if not sold:clear;", false);
    }

    private static void duePaid(String text, int want) {
        HookUps x = stations(1);
        x.join(0, 0, 0);
        x.hour(0, 0, 5, 1, 0, 3, 1);
        Due.contract(x, 0, text);
        due("'" + text + "'", x.paid(0, 0, 0), want);
    }

    private static void t2TheFirstPay() {
        duePaid("clear;pay 1;pay 2;", 1);
        duePaid("pay 0;pay 2;clear;", 0);
        duePaid("clear;pay 9999;", 9999);
        duePaid("clear;pay 0012;", 12);
        duePaid("clear;if not sold:pay 1;if slot=5 and sold and sort=3 and long=1:pay 2;pay 3;", 2);
        duePaid("clear;if slot=5 and sold and sort=3 and long=2:pay 2;pay 3;", 3);
        duePaid(times("if not sold:pay 1;", 14) + "clear;pay 7;", 7);
    }

    private static void t2Pay0Without() {
        duePaid("clear;", 0);
        duePaid("clear;if not sold:pay 5;", 0);
        duePaid("pay 5;", 0);
        duePaid("", 0);
    }
}
