/** Promises 1 to 5, 8 to 15, 26 and 37: what is told, and what is refused. */
public final class ToldTest {
    private static final int MIN = Integer.MIN_VALUE;
    private static final int MAX = Integer.MAX_VALUE;

    public static void main(String[] args) {
        promise1NewObject();
        promise2Town();
        promise3Wire();
        promise4Station();
        promise5Summer();
        promise8Day();
        promise9View();
        promise10Join();
        promise11Member();
        promise12Hour();
        promise13Cut();
        promise14Own();
        promise15About();
        promise26Hands();
        promise37Count();
        Due.finish();
    }

    private static HookUps twoStations() {
        HookUps x = new HookUps();
        x.town();
        x.town();
        x.station(0, 0, 10);
        x.station(1, 1, 20);
        return x;
    }

    private static void promise1NewObject() {
        HookUps x = new HookUps();
        for (int what = 0; what <= 7; what++) {
            Due.due("new count(" + what + ")", x.count(what), 0);
        }
        Due.due("new DAY", x.count(8), 0);
        Due.due("new VIEW", x.count(9), HookUps.NONE);
        for (int network = 0; network < 3; network++) {
            Due.due("new CONTRACT", x.count(10 + network), 0);
        }
        Due.due("new HANDS", x.count(13), 1);
        Due.due("new tape", x.end(1), -1);
        for (int k = 0; k < 3; k++) {
            Due.due("new image " + k, x.again(k), false);
        }
        Due.due("NONE", HookUps.NONE, -1);
    }

    private static void promise2Town() {
        HookUps x = new HookUps();
        for (int k = 0; k < 8; k++) {
            Due.due("town", x.town(), k);
        }
        Due.due("9th town", x.town(), -1);
        Due.due("count of towns", x.count(0), 8);
    }

    private static void promise3Wire() {
        HookUps x = new HookUps();
        x.town();
        Due.due("wire to itself", x.wire(0, 0, 5, 1), -1);
        Due.due("wire to no town", x.wire(0, 1, 5, 1), -1);
        x.town();
        int[] wrongMiles = {0, 1000, -1, MIN, MAX};
        for (int miles : wrongMiles) {
            Due.due("wire of " + miles, x.wire(0, 1, miles, 1), -1);
        }
        int[] wrongCircuits = {0, 4, -1, MIN, MAX};
        for (int circuits : wrongCircuits) {
            Due.due("wire with " + circuits, x.wire(0, 1, 5, circuits), -1);
        }
        Due.due("wire from -1", x.wire(-1, 1, 5, 1), -1);
        Due.due("wire from 2", x.wire(2, 1, 5, 1), -1);
        Due.due("wire to -1", x.wire(1, -1, 5, 1), -1);
        Due.due("wire to 2", x.wire(1, 2, 5, 1), -1);
        Due.due("wires so far", x.count(1), 0);
        for (int k = 0; k < 12; k++) {
            Due.due("wire", x.wire(k % 2, 1 - k % 2, k % 2 == 0 ? 1 : 999, k % 3 + 1), k);
        }
        Due.due("13th wire", x.wire(0, 1, 5, 1), -1);
        Due.due("wires", x.count(1), 12);
    }

    private static void promise4Station() {
        HookUps x = new HookUps();
        Due.due("station without town", x.station(0, 0, 1), -1);
        x.town();
        Due.due("station in town 1", x.station(1, 0, 1), -1);
        Due.due("station in town -1", x.station(-1, 0, 1), -1);
        Due.due("station in zone 4", x.station(0, 4, 1), -1);
        Due.due("station in zone -1", x.station(0, -1, 1), -1);
        Due.due("station of power 0", x.station(0, 0, 0), -1);
        Due.due("station of power 100", x.station(0, 0, 100), -1);
        for (int k = 0; k < 8; k++) {
            Due.due("station", x.station(0, k % 4, k == 0 ? 1 : 99), k);
        }
        Due.due("9th station", x.station(0, 0, 1), -1);
        Due.due("stations", x.count(2), 8);
    }

    private static void promise5Summer() {
        HookUps x = new HookUps();
        Due.due("summer 0..199", x.summer(3, 0, 199), true);
        Due.due("in it", x.local(3, 0, 6), 2);
        Due.due("in it", x.local(3, 199, 6), 48 * 199 + 2);
        Due.due("summer of zone 4", x.summer(4, 0, 1), false);
        Due.due("summer of zone -1", x.summer(-1, 0, 1), false);
        Due.due("summer from -1", x.summer(3, -1, 1), false);
        Due.due("summer to 200", x.summer(3, 1, 200), false);
        Due.due("summer from 200", x.summer(3, 200, 1), false);
        Due.due("summer to -1", x.summer(3, 5, -1), false);
        Due.due("still", x.local(3, 100, 6), 48 * 100 + 2);
        Due.due("one day", x.summer(3, 7, 7), true);
        Due.due("ahead of it", x.local(3, 6, 47), 48 * 6 + 41);
        Due.due("in it", x.local(3, 7, 0), 48 * 7 - 4);
        Due.due("behind it", x.local(3, 8, 0), 48 * 8 - 6);
        Due.due("another zone", x.local(2, 7, 0), 48 * 7 - 4);
        Due.due("none", x.summer(3, 8, 7), true);
        Due.due("none any more", x.local(3, 7, 0), 48 * 7 - 6);
    }

    private static void promise8Day() {
        HookUps x = new HookUps();
        Due.due("day 0", x.day(0), true);
        Due.due("day -1", x.day(-1), false);
        Due.due("day 5", x.day(5), true);
        Due.due("day 5 again", x.day(5), true);
        Due.due("day 4", x.day(4), false);
        Due.due("day 200", x.day(200), false);
        Due.due("day max", x.day(MAX), false);
        Due.due("day min", x.day(MIN), false);
        Due.due("the day", x.count(8), 5);
        Due.due("day 199", x.day(199), true);
        Due.due("the day", x.count(8), 199);
    }

    private static void promise9View() {
        HookUps x = twoStations();
        Due.due("view of 1 on 0", x.view(1), false);
        Due.due("view of 0 on 0", x.view(0), true);
        Due.due("the view", x.count(9), 0);
        x.join(0, 1, 0);
        Due.due("told later on that day", x.member(0, 0), 1);
        x.day(3);
        x.join(0, 2, 0);
        Due.due("told behind the view", x.member(0, 5), 1);
        Due.due("the view stays", x.count(9), 0);
        Due.due("view of 2", x.view(2), true);
        Due.due("not yet", x.member(0, 5), 1);
        Due.due("view of 3", x.view(3), true);
        Due.due("now it is", x.member(0, 5), 2);
        x.view(0);
        Due.due("view of 4", x.view(4), false);
        Due.due("view of -2", x.view(-2), false);
        Due.due("view of min", x.view(MIN), false);
        Due.due("as it was", x.count(9), 0);
        Due.due("view of now", x.view(-1), true);
        Due.due("the view", x.count(9), -1);
        x.day(4);
        x.join(0, -1, 0);
        Due.due("now goes on", x.member(0, 5), -1);
    }

    private static void promise10Join() {
        HookUps x = twoStations();
        Due.due("no station", x.join(2, 0, 0), false);
        Due.due("no station", x.join(-1, 0, 0), false);
        Due.due("no network", x.join(0, 3, 0), false);
        Due.due("no network", x.join(0, -2, 0), false);
        Due.due("no day", x.join(0, 0, -1), false);
        Due.due("no day", x.join(0, 0, 200), false);
        x.day(100);
        Due.due("earlier", x.join(0, 0, 0), true);
        Due.due("later", x.join(0, 2, 199), true);
        Due.due("none", x.join(0, -1, 150), true);
        for (int k = 3; k < 40; k++) {
            Due.due("join", x.join(1, k % 3, k), true);
        }
        Due.due("41st", x.join(1, 0, 0), false);
        Due.due("memberships", x.count(3), 40);
    }

    private static void promise11Member() {
        HookUps x = twoStations();
        Due.due("nothing told", x.member(0, 0), -1);
        x.join(0, 1, 10);
        x.join(0, 2, 5);
        x.join(1, 0, 7);
        Due.due("ahead", x.member(0, 4), -1);
        Due.due("first", x.member(0, 5), 2);
        Due.due("first", x.member(0, 9), 2);
        Due.due("latest from day", x.member(0, 10), 1);
        Due.due("last day", x.member(0, 199), 1);
        x.join(0, 0, 10);
        Due.due("told last", x.member(0, 10), 0);
        x.join(0, -1, 20);
        Due.due("of none", x.member(0, 20), -1);
        Due.due("still", x.member(0, 19), 0);
        Due.due("other", x.member(1, 20), 0);
        Due.due("no station", x.member(2, 20), -1);
        Due.due("no station", x.member(-1, 20), -1);
        Due.due("no day", x.member(1, 200), -1);
        Due.due("no day", x.member(1, -1), -1);
    }

    private static void promise12Hour() {
        HookUps x = twoStations();
        Due.due("no network", x.hour(3, 0, 0, 1, 0, 0, 0), -1);
        Due.due("no network", x.hour(-1, 0, 0, 1, 0, 0, 0), -1);
        Due.due("no day", x.hour(0, 200, 0, 1, 0, 0, 0), -1);
        Due.due("no day", x.hour(0, -1, 0, 1, 0, 0, 0), -1);
        Due.due("no slot", x.hour(0, 0, 48, 1, 0, 0, 0), -1);
        Due.due("no slot", x.hour(0, 0, -1, 1, 0, 0, 0), -1);
        Due.due("no slots", x.hour(0, 0, 0, 0, 0, 0, 0), -1);
        Due.due("5 slots", x.hour(0, 0, 0, 5, 0, 0, 0), -1);
        Due.due("max slots", x.hour(0, 0, 47, MAX, 0, 0, 0), -1);
        Due.due("beyond the day", x.hour(0, 0, 45, 4, 0, 0, 0), -1);
        Due.due("no town", x.hour(0, 0, 0, 1, 2, 0, 0), -1);
        Due.due("no town", x.hour(0, 0, 0, 1, -1, 0, 0), -1);
        Due.due("no sort", x.hour(0, 0, 0, 1, 0, 8, 0), -1);
        Due.due("no sort", x.hour(0, 0, 0, 1, 0, -1, 0), -1);
        Due.due("no stations", x.hour(0, 0, 0, 1, 0, 0, 4), -1);
        Due.due("no stations", x.hour(0, 0, 0, 1, 0, 0, 5), -1);
        Due.due("no stations", x.hour(0, 0, 0, 1, 0, 0, -1), -1);
        Due.due("no stations", x.hour(0, 0, 0, 1, 0, 0, MIN), -1);
        Due.due("hours", x.count(4), 0);
        Due.due("up to the end", x.hour(0, 199, 44, 4, 1, 7, 3), 0);
        Due.due("last slot", x.hour(2, 0, 47, 1, 0, 0, 0), 1);
        x.day(50);
        Due.due("earlier than now", x.hour(2, 0, 0, 1, 0, 0, 0), 2);
        for (int k = 3; k < 24; k++) {
            Due.due("hour", x.hour(0, 0, 0, 1, 0, 0, 0), k);
        }
        Due.due("25th", x.hour(0, 0, 0, 1, 0, 0, 0), -1);
        Due.due("hours", x.count(4), 24);
        x.view(0);
        Due.due("hours in all", x.count(4), 24);
    }

    private static void promise13Cut() {
        HookUps x = twoStations();
        Due.due("no station", x.cut(2, 0, 0, 0, 0), -1);
        Due.due("no station", x.cut(-2, 0, 0, 0, 0), -1);
        Due.due("no day", x.cut(0, 200, 0, 0, 0), -1);
        Due.due("no day", x.cut(0, -1, 0, 0, 0), -1);
        Due.due("no slot", x.cut(0, 0, -1, 0, 0), -1);
        Due.due("no slot", x.cut(0, 0, 0, 48, 0), -1);
        Due.due("no slot", x.cut(0, 0, 48, 48, 0), -1);
        Due.due("from above to", x.cut(0, 0, 3, 2, 0), -1);
        Due.due("no rank", x.cut(0, 0, 0, 0, 10), -1);
        Due.due("no rank", x.cut(0, 0, 0, 0, -1), -1);
        Due.due("breaks", x.count(5), 0);
        Due.due("of all", x.cut(-1, 199, 0, 47, 9), 0);
        Due.due("of one", x.cut(1, 0, 5, 5, 0), 1);
        Due.due("of one, sent", x.sends(1, 0, 5), 101);
        Due.due("not the other", x.sends(0, 0, 5), 300);
        for (int k = 2; k < 24; k++) {
            Due.due("cut", x.cut(0, 0, 0, 0, 0), k);
        }
        Due.due("25th", x.cut(0, 0, 0, 0, 0), -1);
        Due.due("breaks", x.count(5), 24);
    }

    private static void promise14Own() {
        HookUps x = twoStations();
        Due.due("no station", x.own(2, 1), false);
        Due.due("no station", x.own(-1, 1), false);
        Due.due("no bits", x.own(0, 256), false);
        Due.due("no bits", x.own(0, -1), false);
        Due.due("none at first", x.sends(0, 0, 0), 300);
        Due.due("first and last", x.own(0, 129), true);
        Due.due("slot 0", x.sends(0, 0, 0), 200);
        Due.due("slot 5", x.sends(0, 0, 5), 200);
        Due.due("slot 6", x.sends(0, 0, 6), 300);
        Due.due("slot 41", x.sends(0, 0, 41), 300);
        Due.due("slot 42", x.sends(0, 0, 42), 200);
        Due.due("slot 47", x.sends(0, 0, 47), 200);
        x.own(1, 1);
        Due.due("zone 1: local -2", x.sends(1, 0, 0), 300);
        Due.due("zone 1: local 0", x.sends(1, 0, 2), 200);
        Due.due("zone 1: local 5", x.sends(1, 0, 7), 200);
        Due.due("zone 1: local 6", x.sends(1, 0, 8), 300);
        x.summer(1, 0, 0);
        Due.due("summer: local 0", x.sends(1, 0, 0), 200);
        Due.due("summer: local 6", x.sends(1, 0, 6), 300);
        x.own(1, 128);
        x.summer(1, 1, 0);
        Due.due("local 46 of day -1", x.sends(1, 0, 0), 200);
        Due.due("none again", x.own(1, 0), true);
        Due.due("none again", x.sends(1, 0, 0), 300);
        Due.due("all", x.own(1, 255), true);
        Due.due("all", x.sends(1, 77, 30), 200);
    }

    private static void promise15About() {
        HookUps x = twoStations();
        x.day(3);
        x.hour(2, 9, 40, 4, 1, 6, 2);
        int[] want = {2, 9, 40, 4, 1, 6, 2, 3};
        for (int what = 0; what < want.length; what++) {
            Due.due("about(0, " + what + ")", x.about(0, what), want[what]);
        }
        x.view(1);
        Due.due("whatever the view", x.about(0, 0), 2);
        Due.due("what 8", x.about(0, 8), -2);
        Due.due("what -1", x.about(0, -1), -2);
        Due.due("hour 1", x.about(1, 0), -2);
        Due.due("hour -1", x.about(-1, 0), -2);
    }

    private static void promise26Hands() {
        HookUps x = new HookUps();
        int[] wrong = {0, 4, -1, MIN, MAX};
        for (int hands : wrong) {
            Due.due("hands(" + hands + ")", x.hands(hands), false);
        }
        Due.due("hands as at first", x.count(13), 1);
        for (int hands = 3; hands >= 1; hands--) {
            Due.due("hands(" + hands + ")", x.hands(hands), true);
            Due.due("count of hands", x.count(13), hands);
        }
    }

    private static void promise37Count() {
        HookUps x = twoStations();
        x.wire(0, 1, 1, 1);
        x.join(0, 0, 0);
        x.hour(0, 0, 0, 1, 0, 0, 0);
        x.cut(0, 0, 0, 0, 0);
        x.calls(0, 1, 1);
        x.piece(0);
        x.day(6);
        x.join(0, 0, 0);
        x.hour(0, 0, 0, 1, 0, 0, 0);
        x.cut(0, 0, 0, 0, 0);
        x.view(2);
        x.hands(3);
        Due.contract(x, 0, "clear;");
        Due.contract(x, 1, "clear;pay 1;");
        Due.contract(x, 2, "clear;pay 1;refuse;");
        int[] want = {2, 1, 2, 2, 2, 2, 1, 1, 6, 2, 1, 2, 3, 3};
        for (int what = 0; what < want.length; what++) {
            Due.due("count(" + what + ")", x.count(what), want[what]);
        }
        Due.due("count(14)", x.count(14), -2);
        Due.due("count(-1)", x.count(-1), -2);
        Due.due("count(max)", x.count(MAX), -2);
    }
}
