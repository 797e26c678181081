/** Promises 22, 23 and 28 to 30: what is sent, paid, owed and lost. */
public final class SendingTest {
    public static void main(String[] args) {
        promise22Breaks();
        promise22Hours();
        promise22View();
        promise23Sent();
        promise28Paid();
        promise29Owed();
        promise30Lost();
        Due.finish();
    }

    /** Three stations of zone 0 in one town, members of network 0, which clears all and pays 5. */
    private static HookUps threeStations() {
        HookUps x = new HookUps();
        x.town();
        for (int station = 0; station < 3; station++) {
            x.station(0, 0, 10);
            x.join(station, 0, 0);
        }
        Due.contract(x, 0, "clear;pay 5;");
        Due.contract(x, 1, "clear;pay 7;");
        return x;
    }

    private static void promise22Breaks() {
        HookUps x = threeStations();
        Due.due("dead", x.sends(0, 0, 0), 300);
        x.own(0, 1);
        Due.due("own", x.sends(0, 0, 0), 200);
        x.hour(0, 0, 0, 4, 0, 0, 0);
        Due.due("hour", x.sends(0, 0, 0), 0);
        x.cut(0, 0, 1, 2, 5);
        Due.due("ahead of the break", x.sends(0, 0, 0), 0);
        Due.due("its first slot", x.sends(0, 0, 1), 100);
        Due.due("its last slot", x.sends(0, 0, 2), 100);
        Due.due("behind it", x.sends(0, 0, 3), 0);
        Due.due("of another", x.sends(1, 0, 1), 0);
        Due.due("on another day", x.sends(0, 1, 1), 200);
        x.cut(-1, 0, 0, 47, 4);
        Due.due("a lesser rank", x.sends(0, 0, 1), 100);
        Due.due("of all", x.sends(1, 0, 1), 101);
        x.cut(-1, 0, 1, 1, 5);
        Due.due("told last", x.sends(0, 0, 1), 102);
        Due.due("the greater rank", x.sends(1, 0, 1), 102);
        x.cut(0, 0, 1, 1, 9);
        x.cut(0, 0, 1, 1, 8);
        Due.due("the greatest rank", x.sends(0, 0, 1), 103);
        Due.due("station 3", x.sends(3, 0, 1), -1);
        Due.due("station -1", x.sends(-1, 0, 1), -1);
        Due.due("day -1", x.sends(0, -1, 1), -1);
        Due.due("day 200", x.sends(0, 200, 1), -1);
        Due.due("slot -1", x.sends(0, 0, -1), -1);
        Due.due("slot 48", x.sends(0, 0, 48), -1);
    }

    private static void promise22Hours() {
        HookUps x = threeStations();
        x.hour(0, 3, 10, 2, 0, 0, 0);
        x.hour(0, 3, 10, 2, 0, 0, 0);
        x.hour(1, 3, 10, 2, 0, 0, 7);
        x.hour(0, 3, 11, 1, 0, 0, 1);
        x.hour(0, 3, 11, 1, 0, 0, 3);
        Due.due("the least kept", x.sends(0, 3, 10), 0);
        Due.due("sold ahead of kept", x.sends(0, 3, 11), 3);
        Due.due("sold to it", x.sends(1, 3, 11), 4);
        Due.due("sold to others", x.sends(2, 3, 11), 0);
        x.join(2, 1, 3);
        Due.due("of its network", x.sends(2, 3, 11), 2);
        x.join(2, -1, 3);
        Due.due("of no network", x.sends(2, 3, 11), 300);
        Due.contract(x, 0, "if long=2:refuse;clear;");
        Due.due("refused", x.sends(0, 3, 10), 300);
        Due.due("cleared", x.sends(0, 3, 11), 3);
        Due.contract(x, 0, "if sold:refuse;clear;");
        Due.due("refused, kept instead", x.sends(0, 3, 11), 0);
        Due.contract(x, 0, "");
        x.own(0, 2);
        Due.due("nothing cleared", x.sends(0, 3, 11), 200);
    }

    private static void promise22View() {
        HookUps x = threeStations();
        x.hour(0, 9, 10, 1, 0, 0, 0);
        x.day(1);
        x.hour(0, 9, 10, 1, 0, 0, 1);
        x.day(2);
        x.cut(0, 9, 10, 10, 0);
        Due.due("now", x.sends(0, 9, 10), 100);
        x.view(1);
        Due.due("by day 1", x.sends(0, 9, 10), 1);
        x.view(0);
        Due.due("by day 0", x.sends(0, 9, 10), 0);
        x.view(2);
        Due.due("by day 2", x.sends(0, 9, 10), 100);
    }

    private static void promise23Sent() {
        HookUps x = threeStations();
        x.hour(0, 0, 46, 2, 0, 0, 5);
        Due.due("two", x.sent(0, 0), 5);
        x.cut(0, 0, 47, 47, 0);
        Due.due("two", x.sent(0, 0), 5);
        Due.due("one", x.sent(0, 1), 4);
        Due.due("slot 2", x.sent(0, 2), -1);
        Due.due("slot -1", x.sent(0, -1), -1);
        Due.due("hour 1", x.sent(1, 0), -1);
        Due.due("hour -1", x.sent(-1, 0), -1);
        x.hour(2, 0, 0, 1, 0, 0, 7);
        Due.due("nobody", x.sent(1, 0), 0);
        x.day(1);
        x.hour(0, 1, 0, 1, 0, 0, 0);
        Due.due("all", x.sent(2, 0), 7);
        x.view(0);
        Due.due("not seen", x.sent(2, 0), -1);
    }

    private static void promise28Paid() {
        HookUps x = threeStations();
        x.hour(0, 1, 0, 4, 0, 0, 3);
        x.hour(0, 2, 0, 2, 0, 0, 1);
        x.hour(0, 2, 8, 4, 0, 0, 0);
        Due.due("all", x.paid(0, 0, 199), 30);
        Due.due("day 1", x.paid(0, 1, 1), 20);
        Due.due("day 2", x.paid(0, 2, 2), 10);
        Due.due("day 3", x.paid(0, 3, 199), 0);
        Due.due("kept is not paid", x.paid(2, 0, 199), 0);
        x.cut(0, 1, 0, 0, 0);
        Due.due("a break is not paid", x.paid(0, 1, 1), 15);
        Due.contract(x, 0, "clear;if slot=2:pay 100;if slot>2:pay 1;");
        Due.due("by slots", x.paid(0, 1, 1), 101);
        Due.due("no pay", x.paid(0, 2, 2), 0);
        x.join(1, 1, 0);
        Due.due("no member", x.paid(1, 0, 199), 0);
        x.hour(1, 5, 0, 1, 0, 0, 2);
        Due.due("by that network's", x.paid(1, 0, 199), 7);
        Due.due("station 3", x.paid(3, 0, 1), -1);
        Due.due("station -1", x.paid(-1, 0, 1), -1);
        Due.due("a above b", x.paid(0, 2, 1), -1);
        Due.due("day -1", x.paid(0, -1, 1), -1);
        Due.due("day 200", x.paid(0, 0, 200), -1);
        x.day(1);
        x.hour(1, 6, 0, 1, 0, 0, 2);
        Due.due("one more", x.paid(1, 0, 199), 14);
        x.view(0);
        Due.due("by the view", x.paid(1, 0, 199), 7);
    }

    private static void promise29Owed() {
        HookUps x = threeStations();
        x.hour(0, 1, 0, 4, 0, 0, 3);
        x.hour(0, 1, 2, 2, 0, 0, 1);
        Due.due("the least is sent", x.owed(0, 0, 199), 2);
        Due.due("sent", x.owed(1, 0, 199), 0);
        Due.due("not sold to it", x.owed(2, 0, 199), 0);
        x.cut(-1, 1, 3, 40, 0);
        Due.due("a break", x.owed(0, 0, 199), 3);
        Due.due("a break", x.owed(1, 1, 1), 1);
        Due.due("other days", x.owed(1, 2, 199), 0);
        x.join(1, -1, 0);
        Due.due("no member", x.owed(1, 0, 199), 4);
        Due.due("station 3", x.owed(3, 0, 1), -1);
        Due.due("a above b", x.owed(0, 2, 1), -1);
        Due.due("day -1", x.owed(0, -1, 1), -1);
        Due.due("day 200", x.owed(0, 0, 200), -1);
        x.hour(0, 8, 0, 4, 0, 0, 0);
        Due.due("kept is not owed", x.owed(1, 8, 8), 0);
        x.day(1);
        x.hour(2, 8, 0, 3, 0, 0, 2);
        Due.due("of another network", x.owed(1, 8, 8), 3);
        x.view(0);
        Due.due("by the view", x.owed(1, 8, 8), 0);
    }

    private static void promise30Lost() {
        HookUps x = threeStations();
        x.hour(0, 1, 0, 1, 0, 0, 1);
        x.hour(1, 2, 0, 1, 0, 0, 3);
        x.hour(0, 3, 0, 1, 0, 0, 0);
        x.hour(2, 4, 0, 1, 0, 0, 1);
        Due.due("first", x.lost(0, 0), 1);
        Due.due("second", x.lost(0, 1), 3);
        Due.due("third", x.lost(0, 2), -1);
        Due.due("of another", x.lost(1, 0), 1);
        Due.due("of another", x.lost(1, 1), -1);
        Due.due("of a third", x.lost(2, 0), -1);
        Due.due("k -1", x.lost(0, -1), -1);
        Due.due("k min", x.lost(0, Integer.MIN_VALUE), -1);
        Due.due("station 3", x.lost(3, 0), -1);
        Due.due("station -1", x.lost(-1, 0), -1);
        x.day(1);
        x.join(0, 1, 2);
        Due.due("another network from day 2", x.lost(0, 0), 3);
        x.join(0, -1, 1);
        Due.due("no network from day 1", x.lost(0, 0), 0);
        Due.due("no network from day 1", x.lost(0, 1), 3);
        x.view(0);
        Due.due("by the view", x.lost(0, 0), 1);
    }
}
