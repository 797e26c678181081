/** Promises 6 and 7: clocks of four zones, what comes twice or never. */
public final class ClockTest {
    public static void main(String[] args) {
        promise6Local();
        promise7Twice();
        twiceCountedByLocal();
        Due.finish();
    }

    private static void promise6Local() {
        HookUps x = new HookUps();
        for (int zone = 0; zone < 4; zone++) {
            Due.due("first place", x.local(zone, 0, 0), -2 * zone);
            Due.due("last place", x.local(zone, 199, 47), 9599 - 2 * zone);
        }
        x.summer(0, 10, 20);
        Due.due("summer of zone 0", x.local(0, 10, 0), 482);
        Due.due("by the board's day", x.local(0, 9, 47), 479);
        Due.due("last day", x.local(0, 20, 47), 20 * 48 + 49);
        Due.due("day behind", x.local(0, 21, 0), 21 * 48);
        Due.due("zone -1", x.local(-1, 0, 0), -1000);
        Due.due("zone 4", x.local(4, 0, 0), -1000);
        Due.due("day -1", x.local(0, -1, 0), -1000);
        Due.due("day 200", x.local(0, 200, 0), -1000);
        Due.due("slot -1", x.local(0, 0, -1), -1000);
        Due.due("slot 48", x.local(0, 0, 48), -1000);
        Due.due("all wrong", x.local(Integer.MIN_VALUE, Integer.MAX_VALUE, Integer.MIN_VALUE), -1000);
    }

    private static void promise7Twice() {
        HookUps x = new HookUps();
        Due.due("zone -1", x.twice(-1, 0, 0), -1);
        Due.due("zone 4", x.twice(4, 0, 0), -1);
        Due.due("day -2", x.twice(0, -2, 0), -1);
        Due.due("day 201", x.twice(0, 201, 0), -1);
        Due.due("slot -1", x.twice(0, 0, -1), -1);
        Due.due("slot 48", x.twice(0, 0, 48), -1);
        Due.due("day 200", x.twice(0, 200, 0), 0);
        Due.due("day -1 of zone 3", x.twice(3, -1, 42), 1);
        Due.due("day -1 of zone 3", x.twice(3, -1, 41), 0);
        Due.due("last of zone 3", x.twice(3, 199, 41), 1);
        Due.due("behind the last", x.twice(3, 199, 42), 0);
        x.summer(0, 199, 199);
        Due.due("day 200 in summer", x.twice(0, 200, 1), 1);
        Due.due("day 200 in summer", x.twice(0, 200, 2), 0);
        Due.due("left out", x.twice(0, 199, 0), 0);
        x.summer(2, 0, 4);
        Due.due("twice", x.twice(2, 4, 44), 2);
        Due.due("twice", x.twice(2, 4, 45), 2);
        Due.due("once", x.twice(2, 4, 46), 1);
        Due.due("once", x.twice(2, 4, 43), 1);
    }

    private static HookUps withSummers() {
        HookUps x = new HookUps();
        x.summer(0, 0, 199);
        x.summer(1, 3, 3);
        x.summer(2, 0, 0);
        x.summer(3, 198, 199);
        return x;
    }

    private static void twiceCountedByLocal() {
        for (int zone = 0; zone < 4; zone++) {
            HookUps x = null;
            int[] times = new int[48 * 202];
            for (int place = 0; place < 9600; place++) {
                // An object answers 512 calls.
                x = place % 480 == 0 ? withSummers() : x;
                times[x.local(zone, place / 48, place % 48) + 48]++;
            }
            for (int place = 0; place < times.length; place++) {
                x = place % 480 == 0 ? withSummers() : x;
                Due.due("twice in zone " + zone, x.twice(zone, place / 48 - 1, place % 48), times[place]);
            }
        }
    }
}
