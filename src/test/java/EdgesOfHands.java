/** Boundary cases of promises 26 and 27: HANDS, and what they do from one SLOT to the next. */
final class EdgesOfHands extends Edge {
    static void run() {
        hands();
        changes();
        seconds();
    }

    private static void dueChange(HookUps x, int day, int slot, int pulled, int put) {
        due("PULLED at " + day + ", " + slot, x.change(day, slot, 0), pulled);
        due("PUT at " + day + ", " + slot, x.change(day, slot, 1), put);
    }

    /** SECONDS in a SLOT of DAY 0 with one HAND, with two, with three. */
    private static void dueSeconds(HookUps x, int slot, int... seconds) {
        for (int hands = 1; hands <= 3; hands++) {
            x.hands(hands);
            due("SECONDS by HANDS " + hands, x.change(0, slot, 2), seconds[hands - 1]);
        }
    }

    /** TOWN 0 with a WIRE to each other TOWN; a STATION in each TOWN. */
    private static HookUps star(int towns, int circuits) {
        HookUps x = townsWithMembers(towns);
        for (int town = 1; town < towns; town++) {
            x.wire(0, town, 1, circuits);
        }
        return x;
    }

    /** An HOUR of NETWORK 0 on DAY 0 from TOWN 0. */
    private static int sold(HookUps x, int slot, int slots, int stations) {
        return x.hour(0, 0, slot, slots, 0, 0, stations);
    }

    private static void hands() {
        holds(EdgesOfHands::p26OneToThree, promise(26, "HANDS from now on: true;"));
        holds(EdgesOfHands::p26AnotherNumber, promise(26, "false for another number."));
        holds(EdgesOfHands::t3OneAtFirst, terms(3, "HANDS, 1 .. 3 (1 at first),"));
        holds(EdgesOfHands::t3OneThingEach, terms(3, "do one thing each at a time."));
    }

    private static void p26OneToThree() {
        HookUps x = new HookUps();
        takes("HANDS", 1, 3, hands -> x.hands(hands) && x.count(13) == hands);
        due("back to 1", x.hands(1), true);
        due("they are 1", x.count(13), 1);
    }

    private static void p26AnotherNumber() {
        HookUps x = new HookUps();
        x.hands(2);
        refuses("HANDS", 1, 3, hands -> x.hands(hands));
        due("they stay", x.count(13), 2);
    }

    private static void t3OneAtFirst() {
        HookUps x = star(3, 1);
        due("HANDS", x.count(13), 1);
        sold(x, 0, 1, 6);
        due("two PUT by one", x.change(0, 0, 2), 6);
    }

    private static void t3OneThingEach() {
        HookUps x = star(5, 1);
        sold(x, 0, 1, 30);
        dueSeconds(x, 0, 12, 6, 6);
        dueSeconds(x, 1, 8, 4, 4);
        HookUps y = star(4, 1);
        sold(y, 0, 1, 14);
        dueSeconds(y, 0, 9, 6, 3);
        dueSeconds(y, 1, 6, 4, 2);
    }

    private static void changes() {
        plain(terms(3, "PLUGS of a SLOT: a pair of an HOUR and a WIRE of its STRING."));
        holds(EdgesOfHands::p27SlotAhead, promise(27, "From the SLOT ahead to that,"),
            terms(3, "From the SLOT ahead (of all PLACES;"));
        holds(EdgesOfHands::p27PulledAndPut, promise(27, "what 0: PULLED, 1: PUT, 2: SECONDS"));
        holds(EdgesOfHands::t3AheadOfPlace0, terms(3, "none ahead of PLACE 0) to it"));
        holds(EdgesOfHands::t3NoMore, terms(3, "those that are no more are PULLED, 2 seconds each,"));
        holds(EdgesOfHands::t3New, terms(3, "those that are new are PUT, 3 seconds each."));
        holds(EdgesOfHands::p27NoSuchDay, promise(27, "NONE: there is none such DAY"));
        holds(EdgesOfHands::p27NoSuchSlot, promise(27, "SLOT,"));
        holds(EdgesOfHands::p27AnotherWhat, promise(27, "or for another what."));
    }

    private static void p27SlotAhead() {
        HookUps x = star(3, 1);
        x.hour(0, 4, 44, 4, 0, 0, 2);
        x.hour(0, 5, 0, 2, 0, 0, 6);
        dueChange(x, 4, 43, 0, 0);
        dueChange(x, 4, 44, 0, 1);
        dueChange(x, 4, 47, 0, 0);
        // From the last SLOT of a DAY to the first of the next.
        dueChange(x, 5, 0, 1, 2);
        dueChange(x, 5, 1, 0, 0);
        dueChange(x, 5, 2, 2, 0);
        x.hour(0, 199, 47, 1, 0, 0, 4);
        dueChange(x, 199, 46, 0, 0);
        dueChange(x, 199, 47, 0, 1);
        // PLACE 0 is not behind the last of all.
        dueChange(x, 0, 0, 0, 0);
    }

    private static void p27PulledAndPut() {
        HookUps x = star(3, 1);
        sold(x, 0, 1, 2);
        sold(x, 1, 1, 6);
        due("what 0", x.change(0, 1, 0), 1);
        due("what 1", x.change(0, 1, 1), 2);
        due("what 2", x.change(0, 1, 2), 8);
        due("nothing at all, what 2", x.change(0, 3, 2), 0);
    }

    private static void t3AheadOfPlace0() {
        HookUps x = star(3, 1);
        dueChange(x, 0, 0, 0, 0);
        due("no SECONDS", x.change(0, 0, 2), 0);
        sold(x, 0, 2, 6);
        dueChange(x, 0, 0, 0, 2);
        due("SECONDS", x.change(0, 0, 2), 6);
        dueChange(x, 0, 1, 0, 0);
    }

    private static void t3NoMore() {
        HookUps x = star(4, 1);
        sold(x, 0, 2, 14);
        // The same HOUR goes on, but one STATION has a BREAK.
        x.cut(3, 0, 1, 1, 0);
        dueChange(x, 0, 1, 1, 0);
        due("SECONDS of one", x.change(0, 1, 2), 2);
        dueChange(x, 0, 2, 2, 0);
        due("SECONDS of two", x.change(0, 2, 2), 4);
        // Another HOUR over the same WIRE is another PLUG.
        sold(x, 2, 1, 2);
        dueChange(x, 0, 2, 2, 1);
    }

    private static void t3New() {
        HookUps x = star(4, 1);
        sold(x, 0, 2, 14);
        x.cut(3, 0, 0, 0, 0);
        dueChange(x, 0, 0, 0, 2);
        due("SECONDS of two", x.change(0, 0, 2), 6);
        dueChange(x, 0, 1, 0, 1);
        due("SECONDS of one", x.change(0, 1, 2), 3);
        x.day(1);
        sold(x, 5, 1, 14);
        dueChange(x, 0, 5, 0, 3);
        x.view(0);
        dueChange(x, 0, 5, 0, 0);
    }

    private static HookUps oneHour() {
        HookUps x = star(2, 1);
        sold(x, 0, 1, 2);
        return x;
    }

    private static void p27NoSuchDay() {
        HookUps x = oneHour();
        for (int what = 0; what <= 2; what++) {
            int asked = what;
            refuses("DAY, what " + what, -1, 0, 199, day -> x.change(day, 0, asked));
            due("the last DAY", x.change(199, 0, what), 0);
        }
    }

    private static void p27NoSuchSlot() {
        HookUps x = oneHour();
        for (int what = 0; what <= 2; what++) {
            int asked = what;
            refuses("SLOT, what " + what, -1, 0, 47, slot -> x.change(0, slot, asked));
            due("the last SLOT", x.change(0, 47, what), 0);
        }
    }

    private static void p27AnotherWhat() {
        HookUps x = oneHour();
        refuses("what", -1, 0, 2, what -> x.change(0, 0, what));
    }

    private static void seconds() {
        holds(EdgesOfHands::t3NotAheadOfTheOneBefore, terms(3, "In an ORDER of all these things each begins not ahead of the"
            + " one before it in the ORDER, as a HAND is free,"));
        holds(EdgesOfHands::t3CircuitIsFree, terms(3, "and, if it is one to be PUT, as a CIRCUIT of its WIRE is free"));
        holds(EdgesOfHands::t3StillIn, terms(3, "(CIRCUITS, less PLUGS of it that are still in, being put or being"
            + " pulled)."));
        holds(EdgesOfHands::t3LeastOfAllOrders, terms(3, "SECONDS: the least by which all can be done, of all ORDERS in which"
            + " each can begin."));
        holds(EdgesOfHands::t3SevenAtMost, terms(3, "(Told if they are 7 at most.)"));
        holds(EdgesOfHands::p27MoreThan7, promise(27, "(NONE: they are more than 7"));
        holds(EdgesOfHands::p27NoOrder, promise(27, "or there is no ORDER)."));
    }

    /** Three WIRES of one CIRCUIT each, whose PLUGS are all changed: by two HANDS one PUT must wait for the third. */
    private static void t3NotAheadOfTheOneBefore() {
        HookUps x = star(4, 1);
        sold(x, 0, 1, 14);
        sold(x, 1, 1, 14);
        dueSeconds(x, 1, 15, 8, 5);
        HookUps y = star(3, 1);
        sold(y, 0, 1, 2);
        sold(y, 1, 1, 6);
        // PULL 1 and PUT 2 at once, then PUT 1 from the 2nd second on.
        dueSeconds(y, 1, 8, 5, 5);
    }

    private static void t3CircuitIsFree() {
        for (int circuits = 1; circuits <= 3; circuits++) {
            HookUps x = star(2, circuits);
            sold(x, 0, 1, 2);
            sold(x, 1, 1, 2);
            // With one CIRCUIT the PUT waits for the PULLED one.
            int both = circuits == 1 ? 5 : 3;
            dueSeconds(x, 1, 5, both, both);
        }
    }

    /** A WIRE with STATIONS for a PLUG that stays, one that is PULLED and one that is PUT. */
    private static void t3StillIn() {
        for (int circuits = 2; circuits <= 3; circuits++) {
            HookUps x = star(2, circuits);
            x.station(1, 0, 1);
            x.join(2, 0, 0);
            sold(x, 0, 2, 2);
            sold(x, 0, 1, 4);
            sold(x, 1, 1, 4);
            dueChange(x, 0, 1, 1, 1);
            int both = circuits == 2 ? 5 : 3;
            dueSeconds(x, 1, 5, both, both);
        }
        // Two CIRCUITS, two to be PULLED and two to be PUT: one that is being put holds its own, too.
        HookUps y = star(2, 2);
        y.station(1, 0, 1);
        y.join(2, 0, 0);
        sold(y, 0, 1, 2);
        sold(y, 0, 1, 4);
        sold(y, 1, 1, 2);
        sold(y, 1, 1, 4);
        dueChange(y, 0, 1, 2, 2);
        dueSeconds(y, 1, 10, 5, 5);
        // One CIRCUIT is free at once, the others as one and one more are PULLED.
        dueFilled(2, 8, 5, 5);
        dueFilled(3, 13, 7, 5);
    }

    /** A WIRE with all CIRCUITS but one taken, whose PLUGS are PULLED, and as many PUT as there are CIRCUITS. */
    private static void dueFilled(int circuits, int... seconds) {
        HookUps x = star(2, circuits);
        for (int station = 2; station <= circuits; station++) {
            x.station(1, 0, 1);
            x.join(station, 0, 0);
        }
        for (int station = 1; station <= circuits; station++) {
            if (station < circuits) {
                sold(x, 0, 1, 1 << station);
            }
            sold(x, 1, 1, 1 << station);
        }
        dueChange(x, 0, 1, circuits - 1, circuits);
        dueSeconds(x, 1, seconds);
    }

    private static void t3LeastOfAllOrders() {
        HookUps x = star(5, 1);
        sold(x, 0, 1, 2);
        sold(x, 1, 1, 30);
        dueChange(x, 0, 1, 1, 4);
        // One PULL and four PUT, of which one waits for it: 14 seconds of work.
        dueSeconds(x, 1, 14, 8, 6);
        // Three PULL and two PUT: those that are PUT must not be left to the end, if they need not wait.
        HookUps y = star(4, 2);
        sold(y, 0, 1, 14);
        sold(y, 1, 1, 6);
        dueSeconds(y, 1, 12, 6, 5);
        HookUps z = star(4, 1);
        sold(z, 0, 1, 14);
        sold(z, 1, 1, 6);
        dueSeconds(z, 1, 12, 7, 5);
    }

    private static void t3SevenAtMost() {
        HookUps x = star(8, 1);
        sold(x, 0, 1, 254);
        dueChange(x, 0, 0, 0, 7);
        dueSeconds(x, 0, 21, 12, 9);
        dueChange(x, 0, 1, 7, 0);
        dueSeconds(x, 1, 14, 8, 6);
        dueSeconds(x, 2, 0, 0, 0);
    }

    private static void p27MoreThan7() {
        HookUps x = star(8, 1);
        sold(x, 0, 1, 254);
        sold(x, 1, 1, 2);
        dueChange(x, 0, 1, 7, 1);
        dueSeconds(x, 1, -1, -1, -1);
        sold(x, 2, 1, 126);
        dueChange(x, 0, 2, 1, 6);
        // Seven things, more than seven SECONDS.
        dueSeconds(x, 2, 20, 11, 8);
        sold(x, 3, 1, 254);
        dueChange(x, 0, 3, 6, 7);
        dueSeconds(x, 3, -1, -1, -1);
    }

    /** All may be PULLED first, so there is always an ORDER, also where each CIRCUIT is taken ahead and behind. */
    private static void p27NoOrder() {
        HookUps x = star(2, 3);
        for (int station = 2; station < 4; station++) {
            x.station(1, 0, 1);
            x.join(station, 0, 0);
        }
        for (int slot = 0; slot < 2; slot++) {
            for (int station = 1; station < 4; station++) {
                sold(x, slot, 1, 1 << station);
            }
        }
        dueChange(x, 0, 1, 3, 3);
        dueSeconds(x, 1, 15, 8, 5);
    }
}
