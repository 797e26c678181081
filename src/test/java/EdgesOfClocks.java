/** Boundary cases of promises 5 to 7: SUMMERS, LOCAL PLACES, what comes twice or never. */
final class EdgesOfClocks extends Edge {
    private static final int LAST = 48 * 199 + 47;

    static void run() {
        summers();
        locals();
        twices();
    }

    private static void summers() {
        plain(promise(5, "SUMMER of a ZONE"), promise(5, "true;"));
        holds(EdgesOfClocks::p5FromIsTo, terms(1, "A ZONE has SUMMER from a DAY to a DAY"));
        holds(EdgesOfClocks::p5FromAboveTo, promise(5, "(from above to: none)"));
        holds(EdgesOfClocks::p5NoneAtFirst, terms(1, "(none at first;"));
        holds(EdgesOfClocks::p5ToldAnew, terms(1, "told anew it is that)."));
        holds(EdgesOfClocks::p5NoSuchZone, promise(5, "false: there is none such"));
        holds(EdgesOfClocks::p5OtherDays, promise(5, "or DAYS are not 0 .. 199."));
    }

    private static void dueSummer(HookUps x, int zone, int day, boolean summer) {
        int place = 48 * day - 2 * zone + (summer ? 2 : 0);
        due("ZONE " + zone + ", DAY " + day + ", first SLOT", x.local(zone, day, 0), place);
        due("ZONE " + zone + ", DAY " + day + ", last SLOT", x.local(zone, day, 47), place + 47);
    }

    private static void p5FromIsTo() {
        HookUps x = new HookUps();
        due("one DAY", x.summer(1, 7, 7), true);
        dueSummer(x, 1, 6, false);
        dueSummer(x, 1, 7, true);
        dueSummer(x, 1, 8, false);
        dueSummer(x, 0, 7, false);
        due("all DAYS", x.summer(1, 0, 199), true);
        dueSummer(x, 1, 0, true);
        dueSummer(x, 1, 199, true);
    }

    private static void p5FromAboveTo() {
        HookUps x = new HookUps();
        x.summer(2, 0, 199);
        due("from just above to", x.summer(2, 5, 4), true);
        dueSummer(x, 2, 4, false);
        dueSummer(x, 2, 5, false);
        due("from far above to", x.summer(2, 199, 0), true);
        dueSummer(x, 2, 0, false);
        dueSummer(x, 2, 100, false);
        dueSummer(x, 2, 199, false);
    }

    private static void p5NoneAtFirst() {
        HookUps x = new HookUps();
        for (int zone = 0; zone < 4; zone++) {
            dueSummer(x, zone, 0, false);
            dueSummer(x, zone, 199, false);
        }
    }

    private static void p5ToldAnew() {
        HookUps x = new HookUps();
        x.summer(3, 10, 20);
        due("anew", x.summer(3, 21, 30), true);
        dueSummer(x, 3, 10, false);
        dueSummer(x, 3, 20, false);
        dueSummer(x, 3, 21, true);
        dueSummer(x, 3, 30, true);
        dueSummer(x, 3, 31, false);
    }

    private static void p5NoSuchZone() {
        HookUps x = new HookUps();
        refuses("ZONE", 0, 3, zone -> x.summer(zone, 0, 199));
        for (int zone = 0; zone < 4; zone++) {
            dueSummer(x, zone, 9, false);
        }
    }

    private static void p5OtherDays() {
        HookUps x = new HookUps();
        x.summer(0, 10, 20);
        refuses("from", 0, 199, day -> x.summer(0, day, 30));
        refuses("to", 0, 199, day -> x.summer(0, 5, day));
        due("none, but not of these DAYS", x.summer(0, 200, -1), false);
        dueSummer(x, 0, 9, false);
        dueSummer(x, 0, 10, true);
        dueSummer(x, 0, 20, true);
        dueSummer(x, 0, 21, false);
    }

    private static void locals() {
        plain(terms(1, "of ZONE 0 without its summer, the BOARD's clock:"));
        holds(EdgesOfClocks::p6FirstAndLast, promise(6, "LOCAL PLACE of a DAY and SLOT in a ZONE."),
            terms(1, "PLACE of a SLOT: 48 * DAY + SLOT."));
        holds(EdgesOfClocks::p6NoneSuch, promise(6, "-1000: there is none such (of any)."),
            terms(1, "DAYS go from 0 on, to 199; a DAY has 48 SLOTS (half hours, from 0 on)"));
        holds(EdgesOfClocks::p6BoardsDay, terms(1, "LOCAL PLACE in a ZONE z: PLACE - 2 * z, and 2 more if that DAY"
            + " (of the BOARD's clock) lies in its SUMMER;"));
        holds(EdgesOfClocks::p6LocalDayBelow0, terms(1, "from it LOCAL DAY (cut down, -1 may come) and LOCAL SLOT."));
    }

    private static void p6FirstAndLast() {
        HookUps x = new HookUps();
        for (int zone = 0; zone < 4; zone++) {
            due("the first of all", x.local(zone, 0, 0), -2 * zone);
            due("the last of all", x.local(zone, 199, 47), LAST - 2 * zone);
            due("from a DAY", x.local(zone, 4, 47), 239 - 2 * zone);
            due("to the next", x.local(zone, 5, 0), 240 - 2 * zone);
        }
        x.summer(0, 199, 199);
        due("beyond the last", x.local(0, 199, 47), LAST + 2);
    }

    private static void p6NoneSuch() {
        HookUps x = new HookUps();
        refuses("ZONE", -1000, 0, 3, zone -> x.local(zone, 0, 0));
        refuses("DAY", -1000, 0, 199, day -> x.local(0, day, 0));
        refuses("SLOT", -1000, 0, 47, slot -> x.local(0, 0, slot));
    }

    private static void p6BoardsDay() {
        HookUps x = new HookUps();
        x.summer(3, 5, 5);
        due("the last ahead of it", x.local(3, 4, 47), 239 - 6);
        // LOCAL DAY 4, but DAY 5 of the BOARD's clock.
        due("its first", x.local(3, 5, 0), 240 - 4);
        due("its last", x.local(3, 5, 47), 287 - 4);
        due("the first behind it", x.local(3, 6, 0), 288 - 6);
    }

    /** A LOCAL DAY and SLOT are seen by TESTS of a CONTRACT: week is LOCAL DAY and 7, remainder by 7. */
    private static void p6LocalDayBelow0() {
        HookUps x = towns(1);
        x.station(0, 1, 1);
        x.hour(0, 0, 0, 3, 0, 0, 0);
        Due.contract(x, 0, "if week=6 and slot=46:pay 1;if week=6 and slot=47:pay 1;if week=0 and slot=0:pay 1;");
        due("PLACE -2: DAY -1, SLOT 46", x.why(0, 0, 0, true), 0);
        due("PLACE -1: DAY -1, SLOT 47", x.why(0, 0, 1, true), 1);
        due("PLACE 0: DAY 0, SLOT 0", x.why(0, 0, 2, true), 2);
    }

    private static void twices() {
        plain(promise(7, "TWICE."), terms(4, "TWICE: of a LOCAL DAY and LOCAL SLOT of a ZONE how many SLOTS of the"
            + " BOARD's clock"));
        holds(EdgesOfClocks::p7NoSuchZone, promise(7, "NONE: there is none such ZONE"));
        holds(EdgesOfClocks::p7NoSuchDay, promise(7, "LOCAL DAY (-1 .. 200)"));
        holds(EdgesOfClocks::p7NoSuchSlot, promise(7, "or SLOT."));
        holds(EdgesOfClocks::p7FirstPlace, terms(4, "(PLACES 0"));
        holds(EdgesOfClocks::p7LastPlace, terms(4, ".. 9599) have them:"));
        holds(EdgesOfClocks::p7Never, terms(4, "0, 1"));
        holds(EdgesOfClocks::p7Twice, terms(4, "0, 1 or 2."));
    }

    private static void p7NoSuchZone() {
        HookUps x = new HookUps();
        refuses("ZONE", -1, 0, 3, zone -> x.twice(zone, 0, 0));
    }

    private static void p7NoSuchDay() {
        HookUps x = new HookUps();
        refuses("LOCAL DAY", -1, -1, 200, day -> x.twice(0, day, 0));
        due("LOCAL DAY -1", x.twice(0, -1, 0), 0);
        due("LOCAL DAY 200", x.twice(0, 200, 0), 0);
    }

    private static void p7NoSuchSlot() {
        HookUps x = new HookUps();
        refuses("SLOT", -1, 0, 47, slot -> x.twice(0, 0, slot));
        due("SLOT 0", x.twice(0, 0, 0), 1);
        due("SLOT 47", x.twice(0, 0, 47), 1);
    }

    private static void p7FirstPlace() {
        HookUps x = new HookUps();
        due("ZONE 0, ahead of PLACE 0", x.twice(0, -1, 47), 0);
        for (int zone = 1; zone < 4; zone++) {
            due("ahead of PLACE 0", x.twice(zone, -1, 47 - 2 * zone), 0);
            due("at PLACE 0", x.twice(zone, -1, 48 - 2 * zone), 1);
            due("up to the next DAY", x.twice(zone, -1, 47), 1);
        }
        x.summer(3, 0, 0);
        due("SUMMER from DAY 0 on, ahead of PLACE 0", x.twice(3, -1, 43), 0);
        due("SUMMER from DAY 0 on, at PLACE 0", x.twice(3, -1, 44), 1);
        x.summer(0, 0, 0);
        due("SUMMER of ZONE 0, ahead of PLACE 0", x.twice(0, 0, 1), 0);
        due("SUMMER of ZONE 0, at PLACE 0", x.twice(0, 0, 2), 1);
    }

    private static void p7LastPlace() {
        HookUps x = new HookUps();
        for (int zone = 1; zone < 4; zone++) {
            due("at PLACE 9599", x.twice(zone, 199, 47 - 2 * zone), 1);
            due("behind it", x.twice(zone, 199, 48 - 2 * zone), 0);
        }
        due("ZONE 0, at PLACE 9599", x.twice(0, 199, 47), 1);
        due("ZONE 0, behind it", x.twice(0, 200, 0), 0);
        x.summer(0, 199, 199);
        due("SUMMER, at PLACE 9598", x.twice(0, 200, 0), 1);
        due("SUMMER, at PLACE 9599", x.twice(0, 200, 1), 1);
        due("SUMMER, behind it", x.twice(0, 200, 2), 0);
        x.summer(1, 199, 199);
        due("SUMMER of ZONE 1, at PLACE 9599", x.twice(1, 199, 47), 1);
        due("SUMMER of ZONE 1, behind it", x.twice(1, 200, 0), 0);
    }

    private static void p7Never() {
        HookUps x = new HookUps();
        for (int zone = 0; zone < 4; zone++) {
            x.summer(zone, 10, 20);
            // PLACE 480 is the first with 2 more: what it and the next would have been never comes.
            int first = 480 - 2 * zone;
            due("just ahead", x.twice(zone, (first - 1) / 48, (first - 1) % 48), 1);
            due("left out", x.twice(zone, first / 48, first % 48), 0);
            due("left out", x.twice(zone, (first + 1) / 48, (first + 1) % 48), 0);
            due("just behind", x.twice(zone, (first + 2) / 48, (first + 2) % 48), 1);
        }
    }

    private static void p7Twice() {
        HookUps x = new HookUps();
        for (int zone = 0; zone < 4; zone++) {
            x.summer(zone, 10, 20);
            // PLACE 1008 is the first without 2 more: it and the next have been just ahead.
            int first = 1008 - 2 * zone;
            due("just ahead", x.twice(zone, (first - 1) / 48, (first - 1) % 48), 1);
            due("twice", x.twice(zone, first / 48, first % 48), 2);
            due("twice", x.twice(zone, (first + 1) / 48, (first + 1) % 48), 2);
            due("just behind", x.twice(zone, (first + 2) / 48, (first + 2) % 48), 1);
        }
    }
}
