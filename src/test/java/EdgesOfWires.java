/** Boundary cases of promises 24 and 25: STRINGS and their MILES. */
final class EdgesOfWires extends Edge {
    static void run() {
        asked();
        strings();
        shared();
    }

    private static void dueString(HookUps x, int hour, int i, int string, int miles) {
        due("string(" + hour + ", " + i + ")", x.string(hour, i), string);
        due("miles(" + hour + ", " + i + ")", x.miles(hour, i), miles);
    }

    private static void dueNoString(HookUps x, int hour, int i) {
        none("string(" + hour + ", " + i + ")", x.string(hour, i));
        none("miles(" + hour + ", " + i + ")", x.miles(hour, i));
    }

    /** An HOUR of NETWORK 0 on DAY 0 from TOWN 0, one SLOT long. */
    private static int sold(HookUps x, int slot, int stations) {
        return x.hour(0, 0, slot, 1, 0, 0, stations);
    }

    private static void asked() {
        holds(EdgesOfWires::p24LeastAndMost, promise(24, "MILES of the STRING of an HOUR in the i-th SLOT of it."));
        holds(EdgesOfWires::p24ItHasNone, promise(24, "NONE: it has none"));
        holds(EdgesOfWires::p24NoSuchHour, promise(24, "or there is none such"));
        holds(EdgesOfWires::p24NoSuchSlot, promise(24, "there is none such (of either;"));
        holds(EdgesOfWires::p24ByTheView, promise(24, "by THE VIEW)."));
        holds(EdgesOfWires::p25FirstAndLastWire, promise(25, "The STRING, as bits of WIRES."));
        holds(EdgesOfWires::p25AsMiles, promise(25, "NONE: as miles()."));
    }

    private static void p24LeastAndMost() {
        HookUps x = townsWithMembers(8);
        for (int town = 1; town < 8; town++) {
            x.wire(town - 1, town, 999, 1);
        }
        sold(x, 0, 255);
        due("as many as can be", x.miles(0, 0), 7 * 999);
        sold(x, 1, 1);
        due("none", x.miles(1, 0), 0);
        HookUps y = townsWithMembers(2);
        y.wire(0, 1, 1, 1);
        y.hour(0, 0, 0, 4, 0, 0, 2);
        y.cut(1, 0, 3, 3, 0);
        due("the first SLOT", y.miles(0, 0), 1);
        due("the third SLOT", y.miles(0, 2), 1);
        due("the last SLOT, nobody SENDS it", y.miles(0, 3), 0);
    }

    private static void p24ItHasNone() {
        HookUps x = townsWithMembers(3);
        x.wire(0, 1, 1, 3);
        sold(x, 0, 4);
        none("no WIRE to TOWN 2", x.miles(0, 0));
        sold(x, 1, 6);
        none("a WIRE to one of two", x.miles(1, 0));
        sold(x, 2, 2);
        due("a WIRE to TOWN 1", x.miles(2, 0), 1);
    }

    private static HookUps oneHour(int slots) {
        HookUps x = townsWithMembers(2);
        x.wire(0, 1, 7, 1);
        x.hour(0, 0, 0, slots, 0, 0, 2);
        return x;
    }

    private static void p24NoSuchHour() {
        HookUps x = oneHour(1);
        refuses("HOUR", -1, 0, 0, hour -> x.miles(hour, 0));
        sold(x, 1, 2);
        due("the last HOUR", x.miles(1, 0), 7);
    }

    private static void p24NoSuchSlot() {
        for (int slots = 1; slots <= 4; slots++) {
            HookUps x = oneHour(slots);
            refuses("i of " + slots, -1, 0, slots - 1, i -> x.miles(0, i));
            due("the first i", x.miles(0, 0), 7);
            due("the last i", x.miles(0, slots - 1), 7);
        }
    }

    private static void p24ByTheView() {
        HookUps x = townsWithMembers(2);
        x.wire(0, 1, 7, 1);
        x.wire(0, 1, 9, 1);
        x.day(5);
        x.hour(0, 9, 0, 1, 0, 0, 1);
        x.hour(0, 9, 0, 1, 0, 0, 2);
        x.view(4);
        none("told the DAY behind", x.miles(1, 0));
        x.view(5);
        due("told on that DAY", x.miles(1, 0), 7);
        x.day(6);
        x.join(1, -1, 0);
        due("who SENDS it by THE VIEW", x.miles(1, 0), 7);
        x.view(-1);
        due("NOW nobody SENDS it", x.miles(1, 0), 0);
    }

    private static void p25FirstAndLastWire() {
        HookUps x = townsWithMembers(8);
        for (int wire = 0; wire < 11; wire++) {
            x.wire(wire % 6, wire % 6 + 1, 5, 1);
        }
        x.wire(6, 7, 5, 1);
        sold(x, 0, 2);
        due("WIRE 0 alone", x.string(0, 0), 1);
        x.hour(0, 0, 1, 1, 6, 0, 128);
        due("WIRE 11 alone", x.string(1, 0), 1 << 11);
        sold(x, 2, 128);
        due("both, and those between", x.string(2, 0), 63 + (1 << 11));
        sold(x, 3, 1);
        due("no WIRE", x.string(3, 0), 0);
    }

    private static void p25AsMiles() {
        HookUps x = oneHour(2);
        refuses("HOUR", -1, 0, 0, hour -> x.string(hour, 0));
        refuses("i", -1, 0, 1, i -> x.string(0, i));
        due("the last i", x.string(0, 1), 1);
        x.town();
        x.station(2, 0, 1);
        x.join(2, 0, 0);
        sold(x, 5, 4);
        none("it has none", x.string(1, 0));
        x.day(1);
        x.hour(0, 1, 0, 1, 0, 0, 2);
        x.view(0);
        none("not in THE VIEW", x.string(2, 0));
        x.view(1);
        due("in THE VIEW", x.string(2, 0), 1);
    }

    private static void strings() {
        holds(EdgesOfWires::t3HangsTogether, terms(3, "A STRING of an HOUR in a SLOT: WIRES by which its TOWN hangs together"
            + " with TOWNS of all STATIONS that SEND it then;"));
        holds(EdgesOfWires::t3FewMiles, terms(3, "by as few MILES as can be,"));
        holds(EdgesOfWires::t3LeastSet, terms(3, "of several the least set (bits)."));
        holds(EdgesOfWires::t3HasNone, terms(3, "An HOUR without such a STRING has none,"));
        holds(EdgesOfWires::t3TakesNothing, terms(3, "and takes nothing"));
        holds(EdgesOfWires::t3WhoSendsStays, terms(3, "(who SENDS it stays as it is);"));
        holds(EdgesOfWires::t3Nobody, terms(3, "one that nobody SENDS has the empty STRING."));
    }

    private static void t3HangsTogether() {
        HookUps x = townsWithMembers(3);
        x.station(0, 0, 1);
        x.join(3, 0, 0);
        sold(x, 0, 9);
        dueString(x, 0, 0, 0, 0);
        // Over a TOWN whose STATION does not SEND it, from the far end of a WIRE to its near one.
        x.wire(1, 0, 10, 1);
        x.wire(2, 1, 20, 1);
        sold(x, 1, 4);
        dueString(x, 1, 0, 3, 30);
        x.hour(0, 0, 2, 1, 2, 0, 9);
        dueString(x, 2, 0, 3, 30);
        sold(x, 3, 6);
        dueString(x, 3, 0, 3, 30);
        x.cut(2, 0, 3, 3, 0);
        dueString(x, 3, 0, 1, 10);
    }

    private static void t3FewMiles() {
        HookUps x = townsWithMembers(4);
        x.wire(0, 1, 10, 1);
        x.wire(0, 1, 9, 1);
        sold(x, 0, 2);
        dueString(x, 0, 0, 2, 9);
        // Two WIRES of 10 in all against the one of 9, then two of 8.
        x.wire(0, 2, 4, 1);
        x.wire(2, 1, 6, 1);
        dueString(x, 0, 0, 2, 9);
        x.wire(2, 1, 4, 1);
        dueString(x, 0, 0, 4 + 16, 8);
        // Three TOWNS by a fourth, where nobody SENDS it.
        HookUps y = townsWithMembers(4);
        y.wire(0, 1, 10, 1);
        y.wire(0, 2, 10, 1);
        y.wire(0, 3, 7, 1);
        y.wire(3, 1, 7, 1);
        y.wire(3, 2, 7, 1);
        sold(y, 0, 6);
        dueString(y, 0, 0, 3, 20);
        y.wire(3, 2, 5, 1);
        dueString(y, 0, 0, 4 + 8 + 32, 19);
    }

    private static void t3LeastSet() {
        HookUps x = townsWithMembers(4);
        x.wire(0, 1, 5, 1);
        x.wire(0, 2, 5, 1);
        x.wire(2, 3, 5, 1);
        x.wire(1, 3, 5, 1);
        sold(x, 0, 8);
        // 1 + 8 against 2 + 4.
        dueString(x, 0, 0, 6, 10);
        x.wire(0, 3, 10, 1);
        dueString(x, 0, 0, 6, 10);
        HookUps y = townsWithMembers(3);
        y.wire(0, 2, 10, 1);
        y.wire(0, 1, 5, 1);
        y.wire(1, 2, 5, 1);
        y.wire(0, 2, 10, 1);
        sold(y, 0, 4);
        dueString(y, 0, 0, 1, 10);
        sold(y, 1, 6);
        dueString(y, 1, 0, 6, 10);
        HookUps z = townsWithMembers(2);
        for (int wire = 0; wire < 12; wire++) {
            z.wire(0, 1, 999, 1);
        }
        sold(z, 0, 2);
        dueString(z, 0, 0, 1, 999);
    }

    private static void t3HasNone() {
        HookUps x = townsWithMembers(2);
        sold(x, 0, 2);
        dueNoString(x, 0, 0);
        sold(x, 1, 3);
        dueNoString(x, 1, 0);
        x.wire(0, 1, 999, 1);
        dueString(x, 0, 0, 1, 999);
        dueString(x, 1, 0, 1, 999);
    }

    private static void t3TakesNothing() {
        HookUps x = townsWithMembers(3);
        x.station(1, 0, 1);
        x.join(3, 0, 0);
        x.wire(0, 1, 7, 1);
        // TOWN 1 could be had, TOWN 2 could not: the WIRE to TOWN 1 is left for the next.
        sold(x, 0, 6);
        sold(x, 0, 8);
        dueNoString(x, 0, 0);
        dueString(x, 1, 0, 1, 7);
        due("nothing is PUT for it", x.change(0, 0, 1), 1);
    }

    private static void t3WhoSendsStays() {
        HookUps x = townsWithMembers(2);
        sold(x, 0, 3);
        dueNoString(x, 0, 0);
        due("sent", x.sent(0, 0), 3);
        due("sends, in its own TOWN", x.sends(0, 0, 0), 0);
        due("sends, in the other", x.sends(1, 0, 0), 0);
        Due.contract(x, 0, "clear;pay 5;");
        due("paid", x.paid(1, 0, 0), 5);
        due("owed", x.owed(1, 0, 0), 0);
    }

    private static void t3Nobody() {
        HookUps x = towns(2);
        x.hour(0, 0, 0, 1, 1, 0, 0);
        dueString(x, 0, 0, 0, 0);
        x.station(0, 0, 1);
        x.hour(2, 199, 47, 1, 1, 0, 1);
        dueString(x, 1, 0, 0, 0);
        HookUps y = townsWithMembers(2);
        y.wire(0, 1, 3, 1);
        sold(y, 0, 2);
        y.hour(1, 0, 0, 1, 0, 0, 2);
        dueString(y, 0, 0, 1, 3);
        dueString(y, 1, 0, 0, 0);
    }

    private static void shared() {
        holds(EdgesOfWires::t3ByTheirNumbers, terms(3, "HOURS of that SLOT (of all NETWORKS) come one behind the other by"
            + " their numbers:"));
        holds(EdgesOfWires::t3AllTaken, terms(3, "a WIRE whose CIRCUITS are all taken by STRINGS of lesser ones can't be"
            + " had."));
    }

    private static void t3ByTheirNumbers() {
        HookUps x = townsWithMembers(2);
        x.station(1, 0, 1);
        x.join(2, 2, 0);
        Due.contract(x, 2, "clear;");
        x.wire(0, 1, 5, 1);
        x.wire(0, 1, 6, 1);
        x.hour(2, 0, 1, 2, 0, 0, 4);
        x.hour(0, 0, 0, 2, 0, 0, 2);
        dueString(x, 1, 0, 1, 5);
        dueString(x, 0, 0, 1, 5);
        dueString(x, 1, 1, 2, 6);
        dueString(x, 0, 1, 1, 5);
    }

    /** One more HOUR than CIRCUITS, each SENT by a STATION of its own in TOWN 1. */
    private static void t3AllTaken() {
        for (int circuits = 1; circuits <= 3; circuits++) {
            HookUps x = towns(2);
            Due.contract(x, 0, "clear;");
            x.wire(0, 1, 5, circuits);
            for (int hour = 0; hour <= circuits; hour++) {
                x.station(1, 0, 1);
                x.join(hour, 0, 0);
                sold(x, 0, 1 << hour);
            }
            for (int hour = 0; hour < circuits; hour++) {
                dueString(x, hour, 0, 1, 5);
            }
            dueNoString(x, circuits, 0);
            x.wire(1, 0, 999, 1);
            dueString(x, circuits - 1, 0, 1, 5);
            dueString(x, circuits, 0, 2, 999);
            x.cut(0, 0, 0, 0, 0);
            dueString(x, circuits, 0, 1, 5);
        }
    }
}
