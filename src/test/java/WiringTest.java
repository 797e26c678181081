/** Promises 24, 25 and 27: STRINGS, their MILES, and the change from one SLOT to the next. */
public final class WiringTest {
    public static void main(String[] args) {
        promise24And25Strings();
        circuitsShared();
        wrongOnes();
        promise27Change();
        promise27Waiting();
        promise27MoreThanSeven();
        promise27Wrong();
        Due.finish();
    }

    private static void dueString(HookUps x, int hour, int i, int string, int miles) {
        Due.due("string(" + hour + ", " + i + ")", x.string(hour, i), string);
        Due.due("miles(" + hour + ", " + i + ")", x.miles(hour, i), miles);
    }

    private static void dueChange(HookUps x, int slot, int pulled, int put, int seconds) {
        Due.due("pulled at " + slot, x.change(0, slot, 0), pulled);
        Due.due("put at " + slot, x.change(0, slot, 1), put);
        Due.due("seconds at " + slot, x.change(0, slot, 2), seconds);
    }

    /** Towns with one station each, of zone 0, members of network 0, which clears all. */
    private static HookUps towns(int towns) {
        HookUps x = new HookUps();
        for (int town = 0; town < towns; town++) {
            x.town();
            x.station(town, 0, 10);
            x.join(town, 0, 0);
        }
        Due.contract(x, 0, "clear;");
        return x;
    }

    private static void promise24And25Strings() {
        HookUps x = towns(5);
        // A star around town 4 is less than the ring.
        x.wire(0, 1, 10, 3);
        x.wire(1, 2, 10, 3);
        x.wire(2, 3, 10, 3);
        x.wire(4, 0, 6, 3);
        x.wire(4, 1, 6, 3);
        x.wire(4, 2, 6, 3);
        x.hour(0, 0, 0, 1, 0, 0, 6);
        dueString(x, 0, 0, 56, 18);
        x.hour(0, 0, 1, 1, 0, 0, 2);
        dueString(x, 1, 0, 1, 10);
        x.hour(0, 0, 2, 1, 0, 0, 1);
        dueString(x, 2, 0, 0, 0);
        x.hour(0, 0, 3, 1, 3, 0, 1);
        dueString(x, 3, 0, 4 + 8 + 32, 22);
        x.hour(1, 0, 4, 1, 3, 0, 1);
        dueString(x, 4, 0, 0, 0);
        HookUps y = towns(4);
        // Several of as few MILES: the least bits.
        y.wire(1, 3, 5, 1);
        y.wire(0, 1, 5, 1);
        y.wire(0, 2, 5, 1);
        y.wire(2, 3, 5, 1);
        y.wire(1, 3, 5, 1);
        y.hour(0, 0, 0, 1, 0, 0, 8);
        dueString(y, 0, 0, 3, 10);
        y.hour(0, 0, 1, 1, 0, 0, 0);
        dueString(y, 1, 0, 7, 15);
        y.wire(3, 0, 10, 1);
        dueString(y, 0, 0, 3, 10);
        y.wire(3, 0, 9, 1);
        dueString(y, 0, 0, 64, 9);
    }

    private static void circuitsShared() {
        HookUps x = towns(3);
        x.wire(0, 1, 10, 1);
        x.wire(0, 2, 20, 1);
        x.wire(1, 2, 5, 2);
        x.hour(0, 0, 0, 2, 0, 0, 2);
        x.hour(0, 0, 0, 1, 0, 0, 4);
        dueString(x, 0, 0, 1, 10);
        dueString(x, 1, 0, 2, 20);
        // The least takes both WIRES of TOWN 0, so that none is left for the other.
        x.join(0, 1, 0);
        Due.contract(x, 1, "clear;");
        x.hour(1, 0, 0, 1, 1, 0, 1);
        dueString(x, 2, 0, -1, -1);
        Due.due("who sends it stays", x.sent(2, 0), 1);
        Due.due("sends", x.sends(0, 0, 0), 2);
        x.wire(1, 0, 999, 1);
        dueString(x, 2, 0, 8, 999);
        // What an HOUR without a STRING has not taken, a later one can have.
        HookUps y = towns(4);
        y.wire(0, 1, 7, 1);
        y.hour(0, 0, 0, 1, 0, 0, 4);
        y.hour(0, 0, 0, 1, 0, 0, 2);
        dueString(y, 0, 0, -1, -1);
        dueString(y, 1, 0, 1, 7);
    }

    private static void wrongOnes() {
        HookUps x = towns(2);
        x.wire(0, 1, 10, 1);
        x.hour(0, 0, 0, 2, 0, 0, 2);
        dueString(x, 0, 1, 1, 10);
        dueString(x, 0, 2, -1, -1);
        dueString(x, 0, -1, -1, -1);
        dueString(x, 1, 0, -1, -1);
        dueString(x, -1, 0, -1, -1);
        x.day(1);
        x.hour(0, 1, 0, 1, 0, 0, 2);
        dueString(x, 1, 0, 1, 10);
        x.hour(0, 1, 0, 1, 0, 0, 3);
        x.view(0);
        dueString(x, 1, 0, -1, -1);
        dueString(x, 0, 0, 1, 10);
    }

    private static void promise27Change() {
        HookUps x = towns(4);
        x.wire(0, 1, 1, 3);
        x.wire(0, 2, 1, 3);
        x.wire(0, 3, 1, 3);
        dueChange(x, 0, 0, 0, 0);
        x.hour(0, 0, 0, 2, 0, 0, 14);
        dueChange(x, 0, 0, 3, 9);
        dueChange(x, 1, 0, 0, 0);
        dueChange(x, 2, 3, 0, 6);
        x.hands(2);
        dueChange(x, 0, 0, 3, 6);
        dueChange(x, 2, 3, 0, 4);
        x.hands(3);
        dueChange(x, 0, 0, 3, 3);
        dueChange(x, 2, 3, 0, 2);
        // Another HOUR on the same WIRES: all PULLED, all PUT; there are CIRCUITS for both.
        x.hour(0, 0, 2, 1, 0, 0, 14);
        dueChange(x, 2, 3, 3, 5);
        // From the last SLOT of a DAY to the first of the next.
        x.hour(0, 0, 47, 1, 0, 0, 2);
        x.hour(0, 1, 0, 1, 0, 0, 4);
        Due.due("pulled", x.change(1, 0, 0), 1);
        Due.due("put", x.change(1, 0, 1), 1);
        Due.due("seconds", x.change(1, 0, 2), 3);
        x.view(0);
        Due.due("by the view", x.change(1, 0, 1), 1);
        Due.due("last of all", x.change(199, 47, 2), 0);
    }

    private static void promise27Waiting() {
        HookUps x = towns(4);
        x.wire(0, 1, 1, 1);
        x.wire(0, 2, 1, 1);
        x.wire(0, 3, 1, 1);
        x.hour(0, 0, 0, 1, 0, 0, 14);
        x.hour(0, 0, 1, 1, 0, 0, 14);
        dueChange(x, 1, 3, 3, 15);
        x.hands(3);
        // Each PUT waits until its WIRE's one is PULLED.
        dueChange(x, 1, 3, 3, 5);
        x.hands(2);
        dueChange(x, 1, 3, 3, 8);
        HookUps y = towns(2);
        y.wire(0, 1, 1, 1);
        y.hands(3);
        y.hour(0, 0, 0, 1, 0, 0, 2);
        y.hour(0, 0, 1, 1, 0, 0, 2);
        dueChange(y, 1, 1, 1, 5);
        // A kept PLUG holds one of two CIRCUITS.
        HookUps z = towns(3);
        z.wire(0, 1, 1, 2);
        z.wire(1, 2, 1, 2);
        z.hands(3);
        z.hour(0, 0, 0, 2, 0, 0, 2);
        z.hour(0, 0, 0, 1, 0, 0, 4);
        z.hour(0, 0, 1, 1, 0, 0, 4);
        dueString(z, 0, 0, 1, 1);
        dueString(z, 1, 0, 3, 2);
        dueString(z, 2, 0, 3, 2);
        dueChange(z, 1, 2, 2, 5);
    }

    private static void promise27MoreThanSeven() {
        HookUps x = towns(8);
        for (int town = 1; town < 8; town++) {
            x.wire(0, town, 1, 1);
        }
        x.hour(0, 0, 0, 1, 0, 0, 254);
        dueChange(x, 0, 0, 7, 21);
        x.hands(3);
        dueChange(x, 0, 0, 7, 9);
        dueChange(x, 1, 7, 0, 6);
        x.hour(0, 0, 1, 1, 0, 0, 2);
        dueChange(x, 1, 7, 1, -1);
        x.hands(1);
        dueChange(x, 1, 7, 1, -1);
    }

    private static void promise27Wrong() {
        HookUps x = towns(2);
        Due.due("day -1", x.change(-1, 0, 0), -1);
        Due.due("day 200", x.change(200, 0, 0), -1);
        Due.due("slot -1", x.change(0, -1, 0), -1);
        Due.due("slot 48", x.change(0, 48, 0), -1);
        Due.due("what -1", x.change(0, 0, -1), -1);
        Due.due("what 3", x.change(0, 0, 3), -1);
    }
}
