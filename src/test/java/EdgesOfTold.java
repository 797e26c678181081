/** Boundary cases of promises 1 to 4: a new object, TOWNS, WIRES, STATIONS. */
final class EdgesOfTold extends Edge {
    static void run() {
        newObject();
        holds(EdgesOfTold::p2NumbersFrom0, promise(2, "A TOWN: its number."));
        holds(EdgesOfTold::p2ThereAre8, promise(2, "NONE: there are 8."), terms(1, "TOWNS, at most 8, are 0 on."));
        wires();
        stations();
    }

    private static void newObject() {
        holds(EdgesOfTold::p1NoTowns, promise(1, "No TOWNS"));
        holds(EdgesOfTold::p1NoStations, promise(1, "STATIONS"));
        holds(EdgesOfTold::p1NoHours, promise(1, "HOURS"));
        holds(EdgesOfTold::p1NoContracts, promise(1, "CONTRACTS"));
        holds(EdgesOfTold::p1Day0, promise(1, "DAY 0"));
        holds(EdgesOfTold::p1ViewIsNow, promise(1, "THE VIEW is NOW"));
        holds(EdgesOfTold::p1NoImages, promise(1, "no images."));
    }

    private static void p1NoTowns() {
        HookUps x = new HookUps();
        due("count(0)", x.count(0), 0);
        due("count(1), no WIRES", x.count(1), 0);
        none("wire", x.wire(0, 1, 1, 1));
        none("station", x.station(0, 0, 1));
        none("hour", x.hour(0, 0, 0, 1, 0, 0, 0));
        due("the first town", x.town(), 0);
    }

    private static void p1NoStations() {
        HookUps x = towns(1);
        due("count(2)", x.count(2), 0);
        due("count(3), no MEMBERSHIPS", x.count(3), 0);
        due("count(6), no CALLS", x.count(6), 0);
        none("sends", x.sends(0, 0, 0));
        none("member", x.member(0, 0));
        due("join", x.join(0, 0, 0), false);
        due("own", x.own(0, 0), false);
        none("cut", x.cut(0, 0, 0, 0, 0));
        none("calls", x.calls(0, 1, 0));
        none("paid", x.paid(0, 0, 0));
        none("owed", x.owed(0, 0, 0));
        due("a BREAK of all needs none", x.cut(-1, 0, 0, 0, 0), 0);
        due("the first station", x.station(0, 0, 1), 0);
    }

    private static void p1NoHours() {
        HookUps x = stations(1);
        due("count(4)", x.count(4), 0);
        due("count(5), no BREAKS", x.count(5), 0);
        due("about", x.about(0, 0), -2);
        none("sent", x.sent(0, 0));
        none("miles", x.miles(0, 0));
        none("string", x.string(0, 0));
        none("lost", x.lost(0, 0));
        due("sends", x.sends(0, 0, 0), 300);
        for (int what = 0; what <= 2; what++) {
            due("change", x.change(0, 0, what), 0);
        }
        due("the first hour", kept(x, 0, 0), 0);
    }

    private static void p1NoContracts() {
        HookUps x = stations(1);
        for (int network = 0; network < 3; network++) {
            due("LINES", x.count(10 + network), 0);
            x.hour(network, 0, network, 1, 0, 0, 0);
            due("clears", x.clears(0, network, 0), false);
            none("why", x.why(0, network, 0, false));
            none("why, pay", x.why(0, network, 0, true));
        }
        due("fault(0)", x.fault(0), 0);
        none("fault(1)", x.fault(1));
        none("the tape is empty", x.end(1));
    }

    private static void p1Day0() {
        HookUps x = stations(1);
        due("count(8)", x.count(8), 0);
        due("day(0)", x.day(0), true);
        due("view(1)", x.view(1), false);
        due("told on DAY 0", x.about(kept(x, 0, 0), 7), 0);
    }

    private static void p1ViewIsNow() {
        HookUps x = stations(1);
        due("count(9)", x.count(9), HookUps.NONE);
        x.day(9);
        x.join(0, 2, 0);
        due("what is told later is seen", x.member(0, 0), 2);
        due("count(9) still", x.count(9), HookUps.NONE);
    }

    private static void p1NoImages() {
        HookUps x = new HookUps();
        for (int k = 0; k < 3; k++) {
            due("again(" + k + ")", x.again(k), false);
        }
    }

    private static void p2NumbersFrom0() {
        HookUps x = new HookUps();
        for (int town = 0; town < 8; town++) {
            due("town", x.town(), town);
        }
    }

    private static void p2ThereAre8() {
        HookUps x = towns(7);
        due("the 8th", x.town(), 7);
        none("a 9th", x.town());
        none("a 9th again", x.town());
        due("there are 8", x.count(0), 8);
        due("the last is one", x.station(7, 0, 1), 0);
        none("a 9th is none", x.station(8, 0, 1));
    }

    private static void wires() {
        holds(EdgesOfTold::p3NumbersFrom0, promise(3, "A WIRE: its number."),
            terms(1, "WIRES, at most 12, from 0 on, lie between two TOWNS: MILES, 1 .. 999, CIRCUITS, 1 .. 3."));
        holds(EdgesOfTold::p3ThereAre12, promise(3, "NONE: there are 12"));
        holds(EdgesOfTold::p3NoSuchTowns, promise(3, "there are no such TOWNS"));
        holds(EdgesOfTold::p3TheyAreOne, promise(3, "they are one"));
        holds(EdgesOfTold::p3OtherMiles, promise(3, "other numbers"));
        holds(EdgesOfTold::p3OtherCircuits, promise(3, "or other numbers."));
    }

    private static void p3NumbersFrom0() {
        HookUps x = towns(8);
        due("least of all", x.wire(0, 1, 1, 1), 0);
        due("most of all", x.wire(7, 6, 999, 3), 1);
        due("between the same two", x.wire(0, 1, 1, 1), 2);
        due("between the same two, turned", x.wire(1, 0, 1, 2), 3);
    }

    private static void p3ThereAre12() {
        HookUps x = towns(2);
        for (int wire = 0; wire < 12; wire++) {
            due("wire", x.wire(0, 1, 1, 1), wire);
        }
        none("a 13th", x.wire(0, 1, 1, 1));
        due("there are 12", x.count(1), 12);
    }

    private static void p3NoSuchTowns() {
        HookUps x = towns(2);
        refuses("wire from", -1, 0, 1, town -> x.wire(town, 0, 1, 1));
        refuses("wire to", -1, 0, 1, town -> x.wire(0, town, 1, 1));
        none("neither is one", x.wire(2, 3, 1, 1));
        due("none has come", x.count(1), 0);
        x.town();
        due("TOWN 2 is one now", x.wire(2, 0, 1, 1), 0);
    }

    private static void p3TheyAreOne() {
        HookUps x = towns(2);
        none("0 to 0", x.wire(0, 0, 1, 1));
        none("1 to 1", x.wire(1, 1, 1, 1));
        due("none has come", x.count(1), 0);
    }

    private static void p3OtherMiles() {
        HookUps x = towns(2);
        refuses("MILES", -1, 1, 999, miles -> x.wire(0, 1, miles, 1));
        due("none has come", x.count(1), 0);
        due("1 mile", x.wire(0, 1, 1, 1), 0);
        due("999 miles", x.wire(0, 1, 999, 1), 1);
    }

    private static void p3OtherCircuits() {
        HookUps x = towns(2);
        refuses("CIRCUITS", -1, 1, 3, circuits -> x.wire(0, 1, 1, circuits));
        due("none has come", x.count(1), 0);
        due("1 circuit", x.wire(0, 1, 1, 1), 0);
        due("3 circuits", x.wire(0, 1, 1, 3), 1);
    }

    private static void stations() {
        holds(EdgesOfTold::p4NumbersFrom0, promise(4, "A STATION: its number."),
            terms(1, "STATIONS, at most 8, from 0 on, are in a TOWN, a ZONE, 0 .. 3, and have a POWER, 1 .. 99."));
        holds(EdgesOfTold::p4ThereAre8, promise(4, "NONE: there are 8"));
        holds(EdgesOfTold::p4NoSuchTown, promise(4, "there is no such TOWN"));
        holds(EdgesOfTold::p4OtherZone, promise(4, "other numbers"));
        holds(EdgesOfTold::p4OtherPower, promise(4, "or other numbers."));
    }

    private static void p4NumbersFrom0() {
        HookUps x = towns(8);
        due("least of all", x.station(0, 0, 1), 0);
        due("most of all", x.station(7, 3, 99), 1);
        due("in the same TOWN", x.station(7, 3, 99), 2);
    }

    private static void p4ThereAre8() {
        HookUps x = towns(1);
        for (int station = 0; station < 8; station++) {
            due("station", x.station(0, 0, 1), station);
        }
        none("a 9th", x.station(0, 0, 1));
        due("there are 8", x.count(2), 8);
        due("the last is one", x.sends(7, 0, 0), 300);
        none("a 9th is none", x.sends(8, 0, 0));
    }

    private static void p4NoSuchTown() {
        HookUps x = towns(3);
        refuses("TOWN", -1, 0, 2, town -> x.station(town, 0, 1));
        due("none has come", x.count(2), 0);
        due("TOWN 2", x.station(2, 0, 1), 0);
    }

    private static void p4OtherZone() {
        HookUps x = towns(1);
        refuses("ZONE", -1, 0, 3, zone -> x.station(0, zone, 1));
        due("none has come", x.count(2), 0);
        due("ZONE 0", x.station(0, 0, 1), 0);
        due("ZONE 3", x.station(0, 3, 1), 1);
    }

    private static void p4OtherPower() {
        HookUps x = towns(1);
        refuses("POWER", -1, 1, 99, power -> x.station(0, 0, power));
        due("none has come", x.count(2), 0);
        due("POWER 1", x.station(0, 0, 1), 0);
        due("POWER 99", x.station(0, 0, 99), 1);
    }
}
