/** Boundary cases of promises 8 to 11: the DAY of now, THE VIEW, MEMBERSHIPS. */
final class EdgesOfDays extends Edge {
    static void run() {
        days();
        views();
        joins();
        memberships();
    }

    private static void days() {
        holds(EdgesOfDays::p8SameDay, promise(8, "The DAY of now: true;"));
        holds(EdgesOfDays::p8Earlier, promise(8, "false: it is earlier than it was"));
        holds(EdgesOfDays::p8Above199, promise(8, "or above 199."));
    }

    private static void p8SameDay() {
        HookUps x = new HookUps();
        due("DAY 0 on DAY 0", x.day(0), true);
        due("the next", x.day(1), true);
        due("the same again", x.day(1), true);
        due("the last", x.day(199), true);
        due("the last again", x.day(199), true);
        due("the DAY", x.count(8), 199);
    }

    private static void p8Earlier() {
        HookUps x = new HookUps();
        due("ahead of DAY 0", x.day(-1), false);
        due("far ahead of DAY 0", x.day(MIN), false);
        x.day(5);
        due("just earlier", x.day(4), false);
        due("DAY 0", x.day(0), false);
        due("below 0", x.day(-1), false);
        due("far below 0", x.day(MIN), false);
        due("the DAY stays", x.count(8), 5);
    }

    private static void p8Above199() {
        HookUps x = new HookUps();
        x.day(7);
        due("DAY 200", x.day(200), false);
        due("far above", x.day(MAX), false);
        due("the DAY stays", x.count(8), 7);
        due("DAY 199", x.day(199), true);
        due("DAY 200 behind it", x.day(200), false);
    }

    private static void views() {
        plain(promise(9, "true;"));
        holds(EdgesOfDays::p9UpToNow, promise(9, "THE VIEW is a DAY"),
            terms(1, "THE VIEW is a DAY up to now, or NOW (at first):"));
        holds(EdgesOfDays::p9NoneIsNow, promise(9, "(NONE: NOW):"));
        holds(EdgesOfDays::p9LaterThanNow, promise(9, "false: it is later than now"));
        holds(EdgesOfDays::p9NoDay, promise(9, "or none."));
        holds(EdgesOfDays::t1EndOfThatDay, terms(1, "all that is asked from 2. on is asked by MEMBERSHIPS, HOURS and"
            + " BREAKS told by the end of that DAY."));
    }

    private static void p9UpToNow() {
        HookUps x = new HookUps();
        due("NOW at first", x.count(9), -1);
        due("DAY 0 on DAY 0", x.view(0), true);
        due("it is DAY 0", x.count(9), 0);
        x.day(199);
        due("it stays as the DAY goes on", x.count(9), 0);
        due("DAY 199 on DAY 199", x.view(199), true);
        due("it is DAY 199", x.count(9), 199);
        due("back to DAY 0", x.view(0), true);
        due("it is DAY 0", x.count(9), 0);
    }

    private static void p9NoneIsNow() {
        HookUps x = stations(1);
        due("NOW on DAY 0", x.view(-1), true);
        x.day(3);
        x.view(0);
        x.join(0, 1, 0);
        none("not known on DAY 0", x.member(0, 0));
        due("NOW", x.view(HookUps.NONE), true);
        due("THE VIEW", x.count(9), -1);
        due("known NOW", x.member(0, 0), 1);
        x.day(4);
        x.join(0, 2, 0);
        due("NOW goes on", x.member(0, 0), 2);
    }

    private static void p9LaterThanNow() {
        HookUps x = new HookUps();
        due("DAY 1 on DAY 0", x.view(1), false);
        x.day(5);
        x.view(2);
        due("just later", x.view(6), false);
        due("far later", x.view(199), false);
        due("it stays", x.count(9), 2);
        due("now", x.view(5), true);
    }

    private static void p9NoDay() {
        HookUps x = new HookUps();
        x.day(199);
        x.view(3);
        due("-2", x.view(-2), false);
        due("least", x.view(MIN), false);
        due("200", x.view(200), false);
        due("most", x.view(MAX), false);
        due("it stays", x.count(9), 3);
    }

    /** Each is told once on DAY 1 and once on DAY 2; THE VIEW is DAY 1, told ahead of both. */
    private static void t1EndOfThatDay() {
        HookUps x = members(1);
        x.day(1);
        x.view(1);
        x.join(0, -1, 50);
        int early = kept(x, 9, 0);
        x.cut(0, 9, 5, 5, 3);
        x.day(2);
        x.join(0, -1, 40);
        int late = kept(x, 9, 1);
        x.cut(0, 9, 5, 5, 3);
        none("MEMBERSHIP of that DAY", x.member(0, 50));
        due("MEMBERSHIP of the next", x.member(0, 40), 0);
        due("HOUR of that DAY", x.sends(0, 9, 0), early);
        due("HOUR of the next", x.sends(0, 9, 1), 300);
        none("HOUR of the next", x.sent(late, 0));
        due("BREAK of that DAY, not of the next", x.sends(0, 9, 5), 100);
        x.view(2);
        none("the next MEMBERSHIP", x.member(0, 40));
        due("the next HOUR", x.sends(0, 9, 1), late);
        due("the next BREAK", x.sends(0, 9, 5), 101);
        x.view(0);
        due("the MEMBERSHIP of DAY 0", x.member(0, 50), 0);
        due("no HOUR", x.sends(0, 9, 0), 300);
        due("no BREAK", x.sends(0, 9, 5), 300);
    }

    private static void joins() {
        plain(promise(10, "A MEMBERSHIP"), promise(10, "true;"));
        holds(EdgesOfDays::p10OfNone, promise(10, "(network NONE: of none)"));
        holds(EdgesOfDays::p10Whenever, promise(10, "from a DAY on (whenever):"));
        holds(EdgesOfDays::p10NoSuchStation, promise(10, "false: there is none such"));
        holds(EdgesOfDays::p10NoSuchNetwork, promise(10, "there is none such (of any)"), terms(1, "NETWORKS are 0 .. 2."));
        holds(EdgesOfDays::p10NoSuchDay, promise(10, "none such (of any)"));
        holds(EdgesOfDays::p10ThereAre40, promise(10, "or there are 40."),
            terms(1, "MEMBERSHIPS, at most 40: a STATION is a member of a NETWORK (or of none) from a DAY on."));
    }

    private static void p10OfNone() {
        HookUps x = stations(1);
        x.join(0, 2, 5);
        due("of none", x.join(0, HookUps.NONE, 7), true);
        due("the DAY ahead", x.member(0, 6), 2);
        none("from that DAY on", x.member(0, 7));
        none("to the last", x.member(0, 199));
    }

    private static void p10Whenever() {
        HookUps x = stations(1);
        x.day(100);
        due("the first DAY, long ago", x.join(0, 0, 0), true);
        due("the DAY ahead of now", x.join(0, 1, 99), true);
        due("now", x.join(0, 2, 100), true);
        due("the last DAY", x.join(0, 0, 199), true);
        due("from the first", x.member(0, 0), 0);
        due("up to that ahead", x.member(0, 98), 0);
        due("the DAY ahead of now", x.member(0, 99), 1);
        due("now", x.member(0, 100), 2);
        due("up to the last", x.member(0, 198), 2);
        due("the last", x.member(0, 199), 0);
    }

    private static void p10NoSuchStation() {
        HookUps x = stations(2);
        refuses("STATION", 0, 1, station -> x.join(station, 0, 0));
        due("none has come", x.count(3), 0);
        due("the last STATION", x.join(1, 0, 0), true);
    }

    private static void p10NoSuchNetwork() {
        HookUps x = stations(1);
        refuses("NETWORK", -1, 2, network -> x.join(0, network, 0));
        due("none has come", x.count(3), 0);
        takes("NETWORK", -1, 2, network -> x.join(0, network, 0));
        due("NETWORK 2 is the last", x.member(0, 0), 2);
    }

    private static void p10NoSuchDay() {
        HookUps x = stations(1);
        refuses("DAY", 0, 199, from -> x.join(0, 0, from));
        due("none has come", x.count(3), 0);
    }

    private static void p10ThereAre40() {
        HookUps x = stations(2);
        for (int k = 0; k < 39; k++) {
            due("join", x.join(0, 0, 0), true);
        }
        due("the 40th", x.join(1, 1, 0), true);
        due("a 41st", x.join(1, 2, 0), false);
        due("there are 40", x.count(3), 40);
        due("the 40th tells", x.member(1, 0), 1);
        x.day(1);
        due("none on a later DAY", x.join(0, -1, 1), false);
        due("as it was", x.member(0, 199), 0);
    }

    private static void memberships() {
        plain(promise(11, "The NETWORK of which a STATION is a member on a DAY."));
        holds(EdgesOfDays::p11OfNone, promise(11, "NONE: of none"));
        holds(EdgesOfDays::p11NoSuchStation, promise(11, "or there is none such"));
        holds(EdgesOfDays::p11NoSuchDay, promise(11, "there is none such (of either)."));
        holds(EdgesOfDays::t1FromTheLatestDay, terms(1, "A STATION is a member of a NETWORK on a DAY by the MEMBERSHIP"
            + " from the latest DAY, up to that one;"));
        holds(EdgesOfDays::t1ToldLast, terms(1, "of several the one told last."));
    }

    private static void p11OfNone() {
        HookUps x = stations(2);
        none("no MEMBERSHIP at all", x.member(0, 0));
        x.join(1, 0, 0);
        none("that of another", x.member(0, 0));
        x.join(0, 0, 1);
        none("the DAY ahead of the first", x.member(0, 0));
        x.join(0, -1, 1);
        none("of none", x.member(0, 1));
    }

    private static void p11NoSuchStation() {
        HookUps x = members(2);
        refuses("STATION", -1, 0, 1, station -> x.member(station, 0));
        due("the last STATION", x.member(1, 0), 0);
    }

    private static void p11NoSuchDay() {
        HookUps x = members(1);
        refuses("DAY", -1, 0, 199, day -> x.member(0, day));
        due("the first DAY", x.member(0, 0), 0);
        due("the last DAY", x.member(0, 199), 0);
    }

    private static void t1FromTheLatestDay() {
        HookUps x = stations(1);
        x.join(0, 1, 10);
        x.join(0, 2, 5);
        due("the DAY ahead of the later one", x.member(0, 9), 2);
        due("the later one, though told ahead", x.member(0, 10), 1);
        x.join(0, 0, 11);
        due("one from the DAY behind does not count", x.member(0, 10), 1);
        due("but on its DAY", x.member(0, 11), 0);
        x.join(0, 2, 0);
        due("told last, but from an earlier DAY", x.member(0, 5), 2);
        due("told last, but from an earlier DAY", x.member(0, 10), 1);
        due("from DAY 0", x.member(0, 0), 2);
    }

    private static void t1ToldLast() {
        HookUps x = stations(2);
        x.join(0, 1, 4);
        x.join(0, 2, 4);
        due("the last of two", x.member(0, 4), 2);
        x.join(0, -1, 4);
        none("of none, told last", x.member(0, 4));
        x.join(0, 0, 4);
        x.join(1, 1, 4);
        due("not that of another", x.member(0, 4), 0);
        x.day(3);
        x.join(0, 1, 4);
        due("on a later DAY", x.member(0, 4), 1);
        x.view(2);
        due("the last by THE VIEW", x.member(0, 4), 0);
        HookUps y = stations(1);
        y.join(0, 1, 0);
        y.join(0, 2, 0);
        due("of two from DAY 0", y.member(0, 0), 2);
    }
}
