/** Boundary cases of promises 31 to 36: CALLS, which are APART, PIECES and their PLAN. */
final class EdgesOfEvenings extends Edge {
    static void run() {
        calls();
        apart();
        pieces();
        plans();
    }

    private static void calls() {
        holds(EdgesOfEvenings::p31NumbersFrom0, promise(31, "CALLS: their number."));
        holds(EdgesOfEvenings::p31ThereAre40, promise(31, "NONE: there are 40"), terms(4, "CALLS, at most 40, from 0 on:"));
        holds(EdgesOfEvenings::p31NoSuchStation, promise(31, "there is no such STATION"));
        holds(EdgesOfEvenings::p31OtherCalled, promise(31, "or other numbers"),
            terms(4, "of so many called, 1 .. 999, so many heard a STATION."));
        holds(EdgesOfEvenings::p31OtherHeard, promise(31, "(heard 0 .. called)."));
        holds(EdgesOfEvenings::p32LeastAndMost, promise(32, "Of CALLS, what 0: the STATION, 1: called, 2: heard, 3: SHARE."));
        holds(EdgesOfEvenings::p32NoneSuch, promise(32, "NONE if there are none such"));
        holds(EdgesOfEvenings::p32AnotherWhat, promise(32, "or for another what."));
        holds(EdgesOfEvenings::t4ShareIsCut, terms(4, "SHARE of them: 1000 * heard / called, cut."));
    }

    private static void p31NumbersFrom0() {
        HookUps x = stations(8);
        due("the first", x.calls(0, 1, 0), 0);
        due("the second, of the last STATION", x.calls(7, 999, 999), 1);
    }

    private static void p31ThereAre40() {
        HookUps x = stations(1);
        for (int k = 0; k < 40; k++) {
            due("calls", x.calls(0, 100 + k, k), k);
        }
        none("a 41st", x.calls(0, 1, 1));
        due("there are 40", x.count(6), 40);
        due("the first as it was", x.call(0, 1), 100);
        due("the last as it was", x.call(39, 1), 139);
        none("no 41st", x.call(40, 1));
    }

    private static void p31NoSuchStation() {
        HookUps x = stations(2);
        refuses("STATION", -1, 0, 1, station -> x.calls(station, 1, 1));
        due("none have come", x.count(6), 0);
        due("the last STATION", x.calls(1, 1, 1), 0);
    }

    private static void p31OtherCalled() {
        HookUps x = stations(1);
        refuses("called", -1, 1, 999, called -> x.calls(0, called, 0));
        none("none of none", x.calls(0, 0, 0));
        due("none have come", x.count(6), 0);
        due("1 called", x.calls(0, 1, 0), 0);
        due("999 called", x.calls(0, 999, 0), 1);
    }

    private static void p31OtherHeard() {
        HookUps x = stations(1);
        refuses("heard of 1", -1, 0, 1, heard -> x.calls(0, 1, heard));
        refuses("heard of 500", -1, 0, 500, heard -> x.calls(0, 500, heard));
        refuses("heard of 999", -1, 0, 999, heard -> x.calls(0, 999, heard));
        due("none have come", x.count(6), 0);
        due("0 of 500", x.calls(0, 500, 0), 0);
        due("500 of 500", x.calls(0, 500, 500), 1);
    }

    private static void p32LeastAndMost() {
        HookUps x = stations(8);
        x.calls(0, 1, 0);
        x.calls(7, 999, 999);
        int[] least = {0, 1, 0, 0};
        int[] most = {7, 999, 999, 1000};
        for (int what = 0; what < 4; what++) {
            due("the least, what " + what, x.call(0, what), least[what]);
            due("the most, what " + what, x.call(1, what), most[what]);
        }
    }

    private static void p32NoneSuch() {
        HookUps x = stations(1);
        for (int what = 0; what < 4; what++) {
            none("none at all", x.call(0, what));
        }
        x.calls(0, 5, 5);
        x.calls(0, 6, 6);
        for (int what = 0; what < 4; what++) {
            int asked = what;
            refuses("CALLS, what " + what, -1, 0, 1, k -> x.call(k, asked));
        }
        due("the last", x.call(1, 1), 6);
    }

    private static void p32AnotherWhat() {
        HookUps x = stations(1);
        x.calls(0, 5, 5);
        x.calls(0, 6, 6);
        refuses("what", -1, 0, 3, what -> x.call(0, what));
        refuses("what of the last", -1, 0, 3, what -> x.call(1, what));
    }

    private static void t4ShareIsCut() {
        HookUps x = stations(1);
        int[][] shares = {{3, 2, 666}, {3, 1, 333}, {999, 1, 1}, {999, 998, 998}, {999, 999, 1000}, {999, 0, 0},
            {1, 1, 1000}, {8, 1, 125}, {7, 6, 857}};
        for (int k = 0; k < shares.length; k++) {
            x.calls(0, shares[k][0], shares[k][1]);
            due(shares[k][1] + " of " + shares[k][0], x.call(k, 3), shares[k][2]);
        }
    }

    private static void apart() {
        holds(EdgesOfEvenings::p33NoneSuch, promise(33, "False, too, if there are none such."));
        holds(EdgesOfEvenings::p33Same, promise(33, "Whether two CALLS are APART."));
        holds(EdgesOfEvenings::t4IsAbove, terms(4, "Two are APART, if (k m - l n) ^ 2 * (n + m) is above 4 * (k + l) *"
            + " (n + m - k - l) * n * m (k of n, l of m)."));
    }

    private static void p33NoneSuch() {
        HookUps x = stations(1);
        due("none at all", x.apart(0, 0), false);
        x.calls(0, 999, 999);
        due("no second", x.apart(0, 1), false);
        x.calls(0, 999, 0);
        due("both are", x.apart(0, 1), true);
        refuses("the first", 0, 1, a -> x.apart(a, 0));
        refuses("the first", 0, 1, a -> x.apart(a, 1));
        refuses("the second", 0, 1, b -> x.apart(0, b));
        refuses("the second", 0, 1, b -> x.apart(1, b));
    }

    private static void p33Same() {
        HookUps x = stations(2);
        x.calls(0, 999, 500);
        x.calls(1, 999, 0);
        due("one and itself", x.apart(0, 0), false);
        due("nobody and itself", x.apart(1, 1), false);
        due("of two STATIONS", x.apart(0, 1), true);
    }

    private static void dueApart(int n, int k, int m, int l, boolean want) {
        HookUps x = stations(1);
        x.calls(0, n, k);
        x.calls(0, m, l);
        due(k + " of " + n + ", " + l + " of " + m, x.apart(0, 1), want);
        due(l + " of " + m + ", " + k + " of " + n, x.apart(1, 0), want);
    }

    private static void t4IsAbove() {
        // 64 and 64: not above. 81 * 6 = 486 and 4 * 9 * 9 = 324: above.
        dueApart(2, 2, 2, 0, false);
        dueApart(3, 3, 3, 0, true);
        // 392,000,000 and 392,160,000, then 450,000,000 and 391,000,000.
        dueApart(100, 50, 100, 64, false);
        dueApart(100, 50, 100, 65, true);
        // 1 * 2 and 4; 9 * 4 = 36 and 4 * 3 * 1 * 3 = 36: not above.
        dueApart(1, 1, 1, 0, false);
        dueApart(1, 0, 3, 3, false);
        // 16 * 5 = 80 and 4 * 4 * 1 * 4 = 64: above.
        dueApart(1, 0, 4, 4, true);
        // As far as numbers go: beyond an int on both sides.
        dueApart(999, 999, 999, 0, true);
        dueApart(999, 0, 999, 0, false);
        dueApart(999, 999, 999, 999, false);
        dueApart(999, 500, 999, 499, false);
        dueApart(999, 0, 1, 1, true);
    }

    private static void pieces() {
        holds(EdgesOfEvenings::p34NumbersFrom0, promise(34, "A PIECE: its number."));
        holds(EdgesOfEvenings::p34ThereAre6, promise(34, "NONE: there are 6"), terms(4, "PLAN: PIECES, at most 6, from 0 on,"));
        holds(EdgesOfEvenings::p34AnotherSort, promise(34, "or another SORT."), terms(4, "of a SORT, 0 .. 7,"));
        plain(promise(35, "true;"));
        holds(EdgesOfEvenings::p35ToldAnew, promise(35, "What a PIECE is worth in a TURN"));
        holds(EdgesOfEvenings::p35NoSuchTurn, promise(35, "0 .. 5:"), terms(4, "in each of six TURNS"));
        holds(EdgesOfEvenings::p35NoSuchPiece, promise(35, "false: there is none such (of either)"));
        holds(EdgesOfEvenings::p35AnotherNumber, promise(35, "or another number."),
            terms(4, "are each worth so much, 0 .. 9999,"));
        holds(EdgesOfEvenings::t4WorthNothingAtFirst, terms(4, "(0 at first)."));
    }

    private static void p34NumbersFrom0() {
        HookUps x = new HookUps();
        for (int piece = 0; piece < 6; piece++) {
            due("piece", x.piece(0), piece);
        }
    }

    private static void p34ThereAre6() {
        HookUps x = new HookUps();
        for (int sort = 0; sort < 5; sort++) {
            x.piece(sort);
        }
        due("the 6th", x.piece(5), 5);
        none("a 7th", x.piece(6));
        due("there are 6", x.count(7), 6);
        due("the 6th is one", x.worth(5, 0, 1), true);
        due("a 7th is none", x.worth(6, 0, 1), false);
        due("a way for 6", x.plan(6), 0);
    }

    private static void p34AnotherSort() {
        HookUps x = new HookUps();
        refuses("SORT", -1, 0, 7, sort -> x.piece(sort));
        due("none has come", x.count(7), 0);
        due("SORT 0", x.piece(0), 0);
        due("SORT 7", x.piece(7), 1);
    }

    private static HookUps pieces(int... sorts) {
        HookUps x = new HookUps();
        for (int sort : sorts) {
            x.piece(sort);
        }
        return x;
    }

    private static void duePlan(HookUps x, int worth, int... turns) {
        due("plan(0)", x.plan(0), worth);
        for (int piece = 0; piece < turns.length; piece++) {
            due("the TURN of PIECE " + piece, x.plan(1 + piece), turns[piece]);
        }
    }

    private static void p35ToldAnew() {
        HookUps x = pieces(0);
        due("told", x.worth(0, 3, 5), true);
        duePlan(x, 5, 3);
        due("less", x.worth(0, 3, 4), true);
        duePlan(x, 4, 3);
        due("nothing", x.worth(0, 3, 0), true);
        duePlan(x, 0, 0);
    }

    private static void p35NoSuchTurn() {
        HookUps x = pieces(0);
        refuses("TURN", 0, 5, turn -> x.worth(0, turn, 7));
        duePlan(x, 0, 0);
        for (int turn = 0; turn < 6; turn++) {
            due("TURN " + turn, x.worth(0, turn, turn + 1), true);
            duePlan(x, turn + 1, turn);
        }
    }

    private static void p35NoSuchPiece() {
        HookUps x = new HookUps();
        due("none at all", x.worth(0, 0, 1), false);
        x.piece(0);
        x.piece(1);
        refuses("PIECE", 0, 1, piece -> x.worth(piece, 0, 7));
        duePlan(x, 0, 0, 1);
        due("the last PIECE", x.worth(1, 5, 7), true);
        duePlan(x, 7, 0, 5);
        // What is told of a PIECE ahead of its time does not come with it.
        due("PIECE 2 is none yet", x.worth(2, 3, 9), false);
        x.piece(2);
        duePlan(x, 7, 0, 5, 1);
    }

    private static void p35AnotherNumber() {
        HookUps x = pieces(0);
        x.worth(0, 2, 5);
        refuses("worth", 0, 9999, worth -> x.worth(0, 2, worth));
        duePlan(x, 5, 2);
        due("9999", x.worth(0, 2, 9999), true);
        duePlan(x, 9999, 2);
        due("0", x.worth(0, 2, 0), true);
        duePlan(x, 0, 0);
    }

    private static void t4WorthNothingAtFirst() {
        HookUps x = pieces(0, 1, 2, 3, 4, 5);
        duePlan(x, 0, 0, 1, 2, 3, 4, 5);
        x.worth(5, 0, 1);
        duePlan(x, 1, 1, 2, 3, 4, 5, 0);
    }

    private static void plans() {
        plain(terms(4, "of all such ways that which is worth most;"));
        holds(EdgesOfEvenings::p36NoPieces, promise(36, "PLAN, what 0: what it is worth, 1 + k: the TURN of PIECE k."));
        holds(EdgesOfEvenings::p36NoSuchWay, promise(36, "NONE: there is no such way"));
        holds(EdgesOfEvenings::p36AnotherWhat, promise(36, "or for another what."));
        holds(EdgesOfEvenings::t4AnotherTurn, terms(4, "Each is given another TURN"));
        holds(EdgesOfEvenings::t4StayWithout, terms(4, "(some TURNS may stay without),"));
        holds(EdgesOfEvenings::t4NextToOneAnother, terms(4, "no two of one SORT in TURNS next to one another:"));
        holds(EdgesOfEvenings::t4LeastRow, terms(4, "of several the least row (PIECE by PIECE its TURN)."));
    }

    private static void p36NoPieces() {
        HookUps x = new HookUps();
        due("worth of no PIECES", x.plan(0), 0);
        none("no PIECE 0", x.plan(1));
        HookUps y = pieces(0, 1, 2, 3, 4, 5);
        for (int piece = 0; piece < 6; piece++) {
            y.worth(piece, 5 - piece, 9999);
        }
        duePlan(y, 6 * 9999, 5, 4, 3, 2, 1, 0);
    }

    private static void p36NoSuchWay() {
        HookUps x = pieces(3, 3, 3);
        duePlan(x, 0, 0, 2, 4);
        x.piece(3);
        for (int what = 0; what <= 4; what++) {
            none("four of one SORT, what " + what, x.plan(what));
        }
        HookUps y = pieces(3, 3, 3, 0, 1, 2);
        duePlan(y, 0, 0, 2, 4, 1, 3, 5);
        HookUps z = pieces(3, 3, 3, 3, 0, 1);
        none("four of one SORT of six", z.plan(0));
        none("four of one SORT of six", z.plan(6));
    }

    private static void p36AnotherWhat() {
        HookUps x = pieces(0, 1);
        refuses("what", -1, 0, 2, what -> x.plan(what));
        due("the last PIECE", x.plan(2), 1);
        HookUps y = pieces(0, 1, 2, 3, 4, 5);
        refuses("what of six", -1, 0, 6, what -> y.plan(what));
        due("the last of six", y.plan(6), 5);
    }

    private static void t4AnotherTurn() {
        HookUps x = pieces(0, 1);
        x.worth(0, 5, 10);
        x.worth(1, 5, 9);
        duePlan(x, 10, 5, 0);
        x.worth(1, 5, 11);
        duePlan(x, 11, 0, 5);
    }

    private static void t4StayWithout() {
        HookUps x = pieces(0, 1);
        x.worth(0, 5, 3);
        x.worth(1, 0, 4);
        duePlan(x, 7, 5, 0);
        HookUps y = pieces(7);
        y.worth(0, 4, 1);
        duePlan(y, 1, 4);
    }

    private static void t4NextToOneAnother() {
        HookUps x = pieces(4, 4);
        x.worth(0, 2, 10);
        x.worth(1, 3, 10);
        // Next to one another they may not be, one TURN further they may.
        duePlan(x, 10, 0, 3);
        x.worth(1, 4, 9);
        duePlan(x, 19, 2, 4);
        HookUps y = pieces(4, 5);
        y.worth(0, 2, 10);
        y.worth(1, 3, 10);
        duePlan(y, 20, 2, 3);
        HookUps z = pieces(4, 4);
        z.worth(0, 0, 10);
        z.worth(1, 5, 10);
        // The last TURN is not next to the first.
        duePlan(z, 20, 0, 5);
        HookUps w = pieces(4, 4);
        w.worth(0, 3, 10);
        w.worth(1, 2, 10);
        duePlan(w, 10, 0, 2);
    }

    private static void t4LeastRow() {
        HookUps x = pieces(0, 1);
        for (int turn = 0; turn < 6; turn++) {
            x.worth(0, turn, 9999);
            x.worth(1, turn, 9999);
        }
        duePlan(x, 19998, 0, 1);
        HookUps y = pieces(0, 1, 2);
        y.worth(0, 0, 5);
        y.worth(0, 3, 5);
        y.worth(1, 0, 7);
        y.worth(1, 3, 7);
        // PIECE 0 in TURN 0 and PIECE 1 in TURN 3, or the other way round: the row that begins with less.
        duePlan(y, 12, 0, 3, 1);
        HookUps z = pieces(0, 1);
        z.worth(1, 0, 1);
        duePlan(z, 1, 1, 0);
    }
}
