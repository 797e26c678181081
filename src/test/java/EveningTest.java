/** Promises 31 to 36: listeners counted by telephone, and an evening planned. */
public final class EveningTest {
    public static void main(String[] args) {
        promise31Calls();
        promise32Call();
        promise33Apart();
        promise34Piece();
        promise35Worth();
        promise36Plan();
        Due.finish();
    }

    private static HookUps oneStation() {
        HookUps x = new HookUps();
        x.town();
        x.station(0, 0, 1);
        return x;
    }

    private static void promise31Calls() {
        HookUps x = new HookUps();
        Due.due("no station", x.calls(0, 5, 1), -1);
        x = oneStation();
        Due.due("station 1", x.calls(1, 5, 1), -1);
        Due.due("station -1", x.calls(-1, 5, 1), -1);
        Due.due("called 0", x.calls(0, 0, 0), -1);
        Due.due("called 1000", x.calls(0, 1000, 0), -1);
        Due.due("heard -1", x.calls(0, 5, -1), -1);
        Due.due("heard 6 of 5", x.calls(0, 5, 6), -1);
        Due.due("calls so far", x.count(6), 0);
        Due.due("none of 1", x.calls(0, 1, 0), 0);
        Due.due("all of 999", x.calls(0, 999, 999), 1);
        for (int k = 2; k < 40; k++) {
            Due.due("calls", x.calls(0, 5, 5), k);
        }
        Due.due("41st", x.calls(0, 5, 5), -1);
        Due.due("calls", x.count(6), 40);
    }

    private static void promise32Call() {
        HookUps x = oneStation();
        x.station(0, 0, 1);
        x.calls(1, 300, 200);
        int[] want = {1, 300, 200, 666};
        for (int what = 0; what < 4; what++) {
            Due.due("call(0, " + what + ")", x.call(0, what), want[what]);
        }
        Due.due("what 4", x.call(0, 4), -1);
        Due.due("what -1", x.call(0, -1), -1);
        Due.due("call 1", x.call(1, 0), -1);
        Due.due("call -1", x.call(-1, 0), -1);
        x.calls(0, 999, 999);
        Due.due("whole share", x.call(1, 3), 1000);
        x.calls(0, 999, 0);
        Due.due("no share", x.call(2, 3), 0);
    }

    private static void promise33Apart() {
        HookUps x = oneStation();
        x.calls(0, 999, 999);
        x.calls(0, 999, 0);
        x.calls(0, 1, 1);
        x.calls(0, 1, 0);
        Due.due("far apart", x.apart(0, 1), true);
        Due.due("far apart", x.apart(1, 0), true);
        // 1 * 2 is not above 4 * 1 * 1 * 1 * 1.
        Due.due("too few", x.apart(2, 3), false);
        Due.due("all and all", x.apart(0, 2), false);
        Due.due("itself", x.apart(1, 1), false);
        // 4 of 4 and 0 of 4: 256 * 8 = 2048 above 4 * 4 * 4 * 16 = 1024.
        x.calls(0, 4, 4);
        x.calls(0, 4, 0);
        Due.due("apart", x.apart(4, 5), true);
        // 2 of 2 and 0 of 2: 16 * 4 = 64 is 4 * 2 * 2 * 4 = 64, not above.
        x.calls(0, 2, 2);
        x.calls(0, 2, 0);
        Due.due("just not", x.apart(6, 7), false);
        Due.due("call 8", x.apart(0, 8), false);
        Due.due("call -1", x.apart(-1, 0), false);
    }

    private static void promise34Piece() {
        HookUps x = new HookUps();
        Due.due("sort 8", x.piece(8), -1);
        Due.due("sort -1", x.piece(-1), -1);
        for (int k = 0; k < 6; k++) {
            Due.due("piece", x.piece(7 - k), k);
        }
        Due.due("7th", x.piece(0), -1);
        Due.due("pieces", x.count(7), 6);
    }

    private static void promise35Worth() {
        HookUps x = new HookUps();
        Due.due("no piece", x.worth(0, 0, 1), false);
        x.piece(0);
        Due.due("piece 1", x.worth(1, 0, 1), false);
        Due.due("piece -1", x.worth(-1, 0, 1), false);
        Due.due("turn 6", x.worth(0, 6, 1), false);
        Due.due("turn -1", x.worth(0, -1, 1), false);
        Due.due("worth -1", x.worth(0, 0, -1), false);
        Due.due("worth 10000", x.worth(0, 0, 10000), false);
        Due.due("worth nothing yet", x.plan(0), 0);
        Due.due("worth 9999", x.worth(0, 5, 9999), true);
        Due.due("plan", x.plan(0), 9999);
        Due.due("turn", x.plan(1), 5);
        Due.due("worth 0", x.worth(0, 5, 0), true);
        Due.due("plan", x.plan(0), 0);
        Due.due("the least row", x.plan(1), 0);
    }

    private static void duePlan(HookUps x, int worth, int... turns) {
        Due.due("plan(0)", x.plan(0), worth);
        for (int k = 0; k < turns.length; k++) {
            Due.due("plan(" + (k + 1) + ")", x.plan(k + 1), turns[k]);
        }
        Due.due("plan beyond", x.plan(turns.length + 1), -1);
        Due.due("plan(-1)", x.plan(-1), -1);
        Due.due("plan(min)", x.plan(Integer.MIN_VALUE), -1);
    }

    private static void promise36Plan() {
        HookUps x = new HookUps();
        duePlan(x, 0);
        for (int k = 0; k < 6; k++) {
            x.piece(k);
        }
        duePlan(x, 0, 0, 1, 2, 3, 4, 5);
        for (int k = 0; k < 6; k++) {
            x.worth(k, 5 - k, 9999);
        }
        duePlan(x, 59994, 5, 4, 3, 2, 1, 0);
        HookUps y = new HookUps();
        y.piece(1);
        y.piece(1);
        y.piece(1);
        duePlan(y, 0, 0, 2, 4);
        y.worth(1, 1, 10);
        duePlan(y, 10, 3, 1, 5);
        y.piece(1);
        Due.due("no way", y.plan(0), -1);
        Due.due("no way", y.plan(1), -1);
        HookUps z = new HookUps();
        z.piece(3);
        z.piece(3);
        z.piece(4);
        z.worth(0, 2, 5);
        z.worth(1, 3, 5);
        z.worth(2, 2, 4);
        duePlan(z, 9, 0, 3, 2);
    }
}
