/** Boundary cases of promises 37 to 39: how many there are, images, and an object of 512 calls. */
final class EdgesOfImages extends Edge {
    private static final int[] EMPTY = {0, 0, 0, 0, 0, 0, 0, 0, 0, -1, 0, 0, 0, 1};
    private static final int[] FULL = {8, 12, 8, 40, 24, 24, 40, 6, 199, 198, 16, 16, 16, 3};

    static void run() {
        counts();
        images();
        agains();
    }

    private static void counts() {
        holds(EdgesOfImages::p37Empty, promise(37, "How many: 0 TOWNS, 1 WIRES, 2 STATIONS, 3 MEMBERSHIPS, 4 HOURS, 5 BREAKS"));
        holds(EdgesOfImages::p37Full, promise(37, "6 CALLS, 7 PIECES, 8 the DAY, 9 THE VIEW"), promise(37, "13 HANDS."));
        holds(EdgesOfImages::p37InAll, promise(37, "(3 to 5 in all),"));
        holds(EdgesOfImages::p37NoneIsNow, promise(37, "(NONE: NOW),"));
        holds(EdgesOfImages::p37LinesOfEach, promise(37, "10 .. 12: LINES of the CONTRACT of NETWORK what - 10,"));
        holds(EdgesOfImages::p37AnotherWhat, promise(37, "-2 for another what."));
    }

    private static void dueCounts(HookUps x, int... want) {
        for (int what = 0; what < want.length; what++) {
            due("count(" + what + ")", x.count(what), want[what]);
        }
    }

    /** As many of all as there may be, by 228 calls. */
    private static HookUps full() {
        HookUps x = new HookUps();
        fill(x);
        return x;
    }

    private static void fill(HookUps x) {
        for (int k = 0; k < 8; k++) {
            x.town();
        }
        for (int k = 0; k < 12; k++) {
            x.wire(k % 8, (k + 1) % 8, 1 + k, 1 + k % 3);
        }
        for (int k = 0; k < 8; k++) {
            x.station(k, k % 4, 99);
            x.own(k, 255);
        }
        for (int network = 0; network < 3; network++) {
            Due.contract(x, network, times("if sort=9:clear;", 14) + "clear;pay 9999;");
        }
        x.day(198);
        for (int k = 0; k < 40; k++) {
            x.join(k % 8, k % 3, k);
            x.calls(k % 8, 999, k);
        }
        for (int k = 0; k < 24; k++) {
            x.hour(k % 3, 199, k / 6 * 4, 4, k % 8, k % 8, k % 2 * 255);
            x.cut(k % 8, 199, 40 + k % 4, 47, k % 10);
        }
        for (int k = 0; k < 6; k++) {
            x.piece(k);
            x.worth(k, 5 - k, 9999);
        }
        x.day(199);
        x.view(198);
        x.hands(3);
    }

    private static void p37Empty() {
        dueCounts(new HookUps(), EMPTY);
    }

    private static void p37Full() {
        HookUps x = full();
        dueCounts(x, FULL);
        none("a TOWN more", x.town());
        none("a WIRE more", x.wire(0, 1, 1, 1));
        none("a STATION more", x.station(0, 0, 1));
        due("a MEMBERSHIP more", x.join(0, 0, 0), false);
        none("an HOUR more", x.hour(0, 0, 0, 1, 0, 0, 0));
        none("a BREAK more", x.cut(0, 0, 0, 0, 0));
        none("CALLS more", x.calls(0, 1, 1));
        none("a PIECE more", x.piece(0));
        due("a DAY more", x.day(200), false);
        dueCounts(x, FULL);
    }

    private static void p37InAll() {
        HookUps x = stations(1);
        x.day(1);
        x.join(0, 0, 0);
        kept(x, 0, 0);
        x.cut(0, 0, 0, 0, 0);
        x.view(0);
        none("THE VIEW has no MEMBERSHIP", x.member(0, 0));
        due("MEMBERSHIPS in all", x.count(3), 1);
        due("HOURS in all", x.count(4), 1);
        due("BREAKS in all", x.count(5), 1);
    }

    private static void p37NoneIsNow() {
        HookUps x = new HookUps();
        due("NOW at first", x.count(9), HookUps.NONE);
        x.view(0);
        due("DAY 0", x.count(9), 0);
        x.view(-1);
        due("NOW again", x.count(9), HookUps.NONE);
    }

    private static void p37LinesOfEach() {
        HookUps x = new HookUps();
        Due.contract(x, 0, times("clear;", 16));
        Due.contract(x, 2, "clear;");
        due("NETWORK 0", x.count(10), 16);
        due("NETWORK 1", x.count(11), 0);
        due("NETWORK 2", x.count(12), 1);
        x.contract(0);
        due("the empty text", x.count(10), 0);
    }

    private static void p37AnotherWhat() {
        HookUps x = new HookUps();
        refuses("what", -2, 0, 13, what -> x.count(what));
        due("what 13", x.count(13), 1);
    }

    private static void images() {
        holds(EdgesOfImages::p38FirstAndLast, promise(38, "Image k (0 .. 2)"));
        holds(EdgesOfImages::p38AsItIsNow, promise(38, "as it is now: true;"));
        holds(EdgesOfImages::p38OfTheEmptyOne, promise(38, "is all that is told"));
        holds(EdgesOfImages::p38OfTheFullOne, promise(38, "all that is told"));
        holds(EdgesOfImages::p38TheTape, promise(38, "(the tape,"));
        holds(EdgesOfImages::p38TheFault, promise(38, "the FAULT, too),"));
        holds(EdgesOfImages::p38AnotherK, promise(38, "false for another k."));
    }

    private static void p38FirstAndLast() {
        HookUps x = new HookUps();
        for (int k = 0; k < 3; k++) {
            due("image(" + k + ")", x.image(k), true);
            x.town();
        }
        for (int k = 2; k >= 0; k--) {
            due("again(" + k + ")", x.again(k), true);
            due("TOWNS of image " + k, x.count(0), k);
        }
    }

    private static void p38AsItIsNow() {
        HookUps x = full();
        x.image(0);
        x.view(-1);
        due("a second image", x.image(1), true);
        x.again(0);
        due("the first is as it was then", x.count(9), 198);
        x.again(1);
        due("the second is as it was then", x.count(9), -1);
        x.view(5);
        due("the first anew", x.image(0), true);
        x.view(6);
        x.again(0);
        due("the first is as it was anew", x.count(9), 5);
    }

    /** What the full one had is not there any more, nor does it come again with what is told anew. */
    private static void p38OfTheEmptyOne() {
        HookUps x = new HookUps();
        x.image(2);
        fill(x);
        for (int zone = 0; zone < 4; zone++) {
            x.summer(zone, 0, 199);
        }
        due("again", x.again(2), true);
        dueCounts(x, EMPTY);
        for (int zone = 0; zone < 4; zone++) {
            due("no SUMMER", x.local(zone, 0, 0), -2 * zone);
        }
        x.town();
        x.station(0, 0, 1);
        due("no OWN time", x.sends(0, 0, 0), 300);
        x.hour(0, 0, 0, 1, 0, 0, 0);
        due("no CONTRACT", x.clears(0, 0, 0), false);
        x.piece(0);
        due("worth nothing", x.plan(0), 0);
        due("the first CALLS", x.calls(0, 5, 4), 0);
        due("their numbers", x.call(0, 1), 5);
    }

    private static void p38OfTheFullOne() {
        HookUps x = full();
        for (int zone = 0; zone < 4; zone++) {
            x.summer(zone, 0, 199);
        }
        x.image(0);
        for (int k = 0; k < 8; k++) {
            x.own(k, 0);
            x.summer(k % 4, 1, 0);
            x.worth(k, 5 - k, 0);
            x.worth(k, 0, 7);
        }
        for (int network = 0; network < 3; network++) {
            x.contract(network);
        }
        x.hands(1);
        x.view(-1);
        due("again", x.again(0), true);
        dueCounts(x, FULL);
        for (int zone = 0; zone < 4; zone++) {
            due("SUMMER", x.local(zone, 199, 0), 48 * 199 + 2 - 2 * zone);
        }
        for (int station = 0; station < 8; station++) {
            due("OWN time", x.sends(station, 0, 0), 200);
        }
        due("BREAK", x.sends(1, 199, 47), 109);
        due("PAID", x.paid(0, 0, 199), 16 * 9999);
        due("PLAN", x.plan(0), 6 * 9999);
        due("TURN", x.plan(6), 0);
        due("CALLS", x.call(39, 2), 39);
    }

    private static void p38TheTape() {
        HookUps x = new HookUps();
        x.image(1);
        Due.type(x, times(" ", 494) + "clear;");
        x.image(0);
        x.end(0);
        Due.type(x, times("!", 500));
        x.end(3);
        due("the full tape", x.again(0), true);
        none("it is full", x.feed(0, 0, 0, 0, 0));
        due("its bytes", x.contract(0), 1);
        x.again(0);
        x.again(1);
        none("the empty tape", x.end(1));
        due("the empty tape", x.feed(0, 0, 0, 0, 0), 20);
    }

    private static void p38TheFault() {
        HookUps x = new HookUps();
        x.image(0);
        Due.contract(x, 0, times("clear;", 17));
        x.image(1);
        Due.contract(x, 0, "clear;");
        x.again(1);
        due("FAULT 3", x.fault(0), 3);
        due("its place", x.fault(1), 96);
        due("no CONTRACT then", x.count(10), 0);
        x.again(0);
        due("no FAULT", x.fault(0), 0);
        none("no place", x.fault(1));
    }

    private static void p38AnotherK() {
        HookUps x = new HookUps();
        refuses("image", 0, 2, k -> x.image(k));
        for (int k = 0; k < 3; k++) {
            due("none has come", x.again(k), false);
        }
    }

    private static void agains() {
        holds(EdgesOfImages::p39AsImageHasIt, promise(39, "All that is as image k has it"), promise(39, "true;"));
        holds(EdgesOfImages::p39SameNumbers, promise(39, "as image k has it"));
        holds(EdgesOfImages::p39OtherImagesStay, promise(39, "(other images stay):"));
        holds(EdgesOfImages::p39NoneSuch, promise(39, "false if there is none such."));
        holds(EdgesOfImages::p39LastOf512, promise(39, "All that is as image k has it (other images stay): true;"));
    }

    private static void p39AsImageHasIt() {
        HookUps x = full();
        HookUps y = new HookUps();
        y.image(0);
        x.image(0);
        due("of the full one", x.again(0), true);
        dueCounts(x, FULL);
        due("of the empty one", y.again(0), true);
        dueCounts(y, EMPTY);
        // The image stays as it was, whatever is told behind it, and can be had more than once.
        y.town();
        y.day(7);
        due("once more", y.again(0), true);
        dueCounts(y, EMPTY);
        due("an earlier DAY again", y.day(6), true);
        due("a TOWN anew", y.town(), 0);
    }

    /** Two images whose TOWNS, WIRES and all others have the same numbers, but are others. */
    private static void p39SameNumbers() {
        HookUps x = towns(2);
        x.image(0);
        x.wire(0, 1, 5, 1);
        x.station(1, 0, 1);
        x.join(0, 0, 0);
        x.hour(0, 0, 0, 1, 0, 0, 1);
        x.cut(0, 0, 1, 1, 0);
        for (int k = 0; k < 40; k++) {
            x.calls(0, 5, 5);
        }
        x.piece(1);
        x.piece(1);
        Due.contract(x, 0, "clear;pay 5;");
        x.image(1);
        x.again(0);
        x.wire(0, 1, 7, 1);
        x.station(1, 3, 1);
        x.join(0, 1, 0);
        x.hour(1, 0, 0, 1, 0, 0, 1);
        x.cut(-1, 0, 2, 2, 0);
        for (int k = 0; k < 40; k++) {
            x.calls(0, 7, 0);
        }
        x.piece(2);
        x.piece(3);
        Due.contract(x, 1, "clear;pay 7;");
        x.image(2);
        x.again(1);
        dueOne(x, 5, 0, 0);
        x.again(2);
        dueOne(x, 7, 1, 6);
        x.again(1);
        dueOne(x, 5, 0, 0);
    }

    private static void dueOne(HookUps x, int miles, int network, int behind) {
        due("WIRE", x.miles(0, 0), miles);
        due("MEMBERSHIP", x.member(0, 0), network);
        due("HOUR", x.about(0, 0), network);
        due("BREAK", x.sends(0, 0, 1 + network), 100);
        due("no BREAK", x.sends(0, 0, 2 - network), 300);
        due("the first CALLS", x.call(0, 1), miles);
        due("the last CALLS", x.call(39, 1), miles);
        due("PIECES", x.plan(2), network == 0 ? 2 : 1);
        due("CONTRACT", x.paid(0, 0, 0), miles);
        x.own(0, 1);
        due("ZONE of the STATION", x.sends(0, 3, behind), 200);
        due("ZONE of the STATION", x.sends(0, 3, (behind + 47) % 48), 300);
    }

    private static void p39OtherImagesStay() {
        HookUps x = new HookUps();
        x.image(0);
        x.town();
        x.image(1);
        x.town();
        x.image(2);
        x.again(0);
        due("image 0", x.count(0), 0);
        x.again(2);
        due("image 2", x.count(0), 2);
        x.again(1);
        due("image 1", x.count(0), 1);
        x.image(0);
        x.again(2);
        x.again(0);
        due("image 0 anew", x.count(0), 1);
    }

    private static void p39NoneSuch() {
        HookUps x = stations(1);
        for (int k = 0; k < 3; k++) {
            due("none yet", x.again(k), false);
        }
        x.image(1);
        x.town();
        due("not 0", x.again(0), false);
        due("not 2", x.again(2), false);
        refuses("again", 0, 2, k -> x.again(k));
        due("it stays", x.count(0), 2);
        due("1", x.again(1), true);
        due("it is", x.count(0), 1);
    }

    /** The full object (228 calls) goes on up to its 512th call, with calls that look at all of it. */
    private static void p39LastOf512() {
        HookUps x = full();
        x.image(0);
        x.image(1);
        for (int calls = 230; calls < 510; calls += 4) {
            due("change", x.change(199, 5, 2), 0);
            // Of HOURS 5, 11, 17 and 23, SOLD by NETWORK 2, all SLOTS; those of other NETWORKS are OWED.
            due("paid", x.paid(0, 0, 199), 16 * 9999);
            due("owed", x.owed(0, 0, 199), 32);
            due("plan", x.plan(0), 6 * 9999);
        }
        due("the 511th call", x.again(0), true);
        due("the 512th call", x.count(8), 199);
    }
}
