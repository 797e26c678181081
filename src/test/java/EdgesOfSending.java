/** Boundary cases of promises 22, 23 and 28 to 30: what is SENT, PAID, OWED and LOST. */
final class EdgesOfSending extends Edge {
    static void run() {
        sends();
        order();
        sents();
        paids();
        oweds();
        losts();
    }

    private static void sends() {
        holds(EdgesOfSending::p22FirstAndLastNumbers, promise(22, "What a STATION SENDS: 0 on: the HOUR; 100 and the number"
            + " of the BREAK; 200: its OWN; 300: DEAD."));
        holds(EdgesOfSending::p22NoSuchStation, promise(22, "NONE: there is none such STATION"));
        holds(EdgesOfSending::p22NoSuchDay, promise(22, "DAY,"));
        holds(EdgesOfSending::p22NoSuchSlot, promise(22, "SLOT."));
    }

    private static void p22FirstAndLastNumbers() {
        HookUps x = members(1);
        for (int k = 0; k < 24; k++) {
            kept(x, 0, k);
            x.cut(0, 1, k, k, 0);
        }
        x.own(0, 128);
        due("HOUR 0", x.sends(0, 0, 0), 0);
        due("HOUR 23", x.sends(0, 0, 23), 23);
        due("BREAK 0", x.sends(0, 1, 0), 100);
        due("BREAK 23", x.sends(0, 1, 23), 123);
        due("OWN", x.sends(0, 0, 42), 200);
        due("DEAD", x.sends(0, 0, 41), 300);
    }

    private static void p22NoSuchStation() {
        HookUps x = stations(2);
        refuses("STATION", -1, 0, 1, station -> x.sends(station, 0, 0));
        due("the last STATION", x.sends(1, 0, 0), 300);
    }

    private static void p22NoSuchDay() {
        HookUps x = stations(1);
        x.own(0, 255);
        refuses("DAY", -1, 0, 199, day -> x.sends(0, day, 0));
        due("DAY 0", x.sends(0, 0, 0), 200);
        due("DAY 199", x.sends(0, 199, 0), 200);
    }

    private static void p22NoSuchSlot() {
        HookUps x = stations(1);
        x.own(0, 255);
        refuses("SLOT", -1, 0, 47, slot -> x.sends(0, 0, slot));
        due("SLOT 0", x.sends(0, 0, 0), 200);
        due("SLOT 47", x.sends(0, 0, 47), 200);
    }

    private static void order() {
        plain(terms(2, "In a SLOT a STATION SENDS:"));
        holds(EdgesOfSending::t2BreakCovers, terms(2, "a BREAK of it or of all that covers it,"));
        holds(EdgesOfSending::t2GreatestRank, terms(2, "that of the greatest RANK,"));
        holds(EdgesOfSending::t2ToldLast, terms(2, "of several the one told last;"));
        holds(EdgesOfSending::t2MemberOnThatDay, terms(2, "else, of HOURS of the NETWORK of which it is a member on that DAY,"));
        holds(EdgesOfSending::t2HaveThatSlot, terms(2, "that have that SLOT"));
        holds(EdgesOfSending::t2Clears, terms(2, "and that it CLEARS,"));
        holds(EdgesOfSending::t2SoldTheLeast, terms(2, "a SOLD one that is sold to it, the least;"));
        holds(EdgesOfSending::t2KeptTheLeast, terms(2, "else a KEPT one, the least;"));
        holds(EdgesOfSending::t2Own, terms(2, "else its OWN, if its LOCAL SLOT is that;"));
        holds(EdgesOfSending::t2Dead, terms(2, "else it is DEAD."));
    }

    private static void t2BreakCovers() {
        HookUps x = members(2);
        x.hour(0, 5, 10, 4, 0, 0, 0);
        x.cut(0, 5, 11, 12, 0);
        due("ahead of it", x.sends(0, 5, 10), 0);
        due("its first SLOT", x.sends(0, 5, 11), 100);
        due("its last SLOT", x.sends(0, 5, 12), 100);
        due("behind it", x.sends(0, 5, 13), 0);
        due("of another STATION", x.sends(1, 5, 11), 0);
        due("the DAY ahead", x.sends(0, 4, 11), 300);
        due("the DAY behind", x.sends(0, 6, 11), 300);
        x.cut(-1, 5, 13, 13, 0);
        due("of all", x.sends(0, 5, 13), 101);
        due("of all", x.sends(1, 5, 13), 101);
        due("one that does not cover it", x.sends(1, 5, 12), 0);
    }

    private static void t2GreatestRank() {
        HookUps x = stations(2);
        x.cut(0, 0, 0, 0, 9);
        x.cut(0, 0, 0, 0, 8);
        x.cut(-1, 0, 0, 0, 0);
        due("RANK 9, told first", x.sends(0, 0, 0), 100);
        due("RANK 0, the only one", x.sends(1, 0, 0), 102);
        x.cut(-1, 0, 0, 0, 1);
        due("RANK 9 still", x.sends(0, 0, 0), 100);
        due("RANK 1 above RANK 0", x.sends(1, 0, 0), 103);
    }

    private static void t2ToldLast() {
        HookUps x = stations(1);
        x.cut(0, 0, 0, 1, 0);
        x.cut(-1, 0, 0, 0, 0);
        due("of all, told last", x.sends(0, 0, 0), 101);
        due("the other does not cover it", x.sends(0, 0, 1), 100);
        x.cut(0, 0, 0, 0, 9);
        x.cut(0, 0, 0, 0, 9);
        due("of one, told last", x.sends(0, 0, 0), 103);
        x.day(1);
        x.cut(0, 0, 0, 0, 9);
        x.view(0);
        due("told last by THE VIEW", x.sends(0, 0, 0), 103);
    }

    private static void t2MemberOnThatDay() {
        HookUps x = stations(1);
        Due.contract(x, 0, "clear;");
        Due.contract(x, 1, "clear;");
        x.hour(0, 4, 0, 1, 0, 0, 1);
        x.hour(0, 5, 0, 1, 0, 0, 1);
        x.hour(1, 4, 0, 1, 0, 0, 1);
        x.hour(1, 5, 0, 1, 0, 0, 1);
        due("no member", x.sends(0, 5, 0), 300);
        x.join(0, 0, 5);
        due("the DAY ahead", x.sends(0, 4, 0), 300);
        due("from that DAY on", x.sends(0, 5, 0), 1);
        x.join(0, 1, 5);
        due("of another NETWORK", x.sends(0, 5, 0), 3);
        x.join(0, -1, 5);
        due("of none", x.sends(0, 5, 0), 300);
    }

    private static void t2HaveThatSlot() {
        HookUps x = members(1);
        x.hour(0, 5, 44, 4, 0, 0, 0);
        x.hour(0, 7, 0, 1, 0, 0, 0);
        due("the SLOT ahead", x.sends(0, 5, 43), 300);
        due("its first SLOT", x.sends(0, 5, 44), 0);
        due("its last SLOT", x.sends(0, 5, 47), 0);
        due("the SLOT behind, on the next DAY", x.sends(0, 6, 0), 300);
        due("the last SLOT of the DAY ahead", x.sends(0, 6, 47), 300);
        due("one SLOT alone", x.sends(0, 7, 0), 1);
        due("the SLOT behind", x.sends(0, 7, 1), 300);
    }

    private static void t2Clears() {
        HookUps x = members(1);
        x.hour(0, 0, 5, 3, 0, 0, 1);
        x.hour(0, 0, 5, 3, 0, 0, 0);
        Due.contract(x, 0, "if sold and slot=6:refuse;if not sold and slot=7:refuse;clear;");
        due("SOLD", x.sends(0, 0, 5), 0);
        due("SOLD is refused, KEPT instead", x.sends(0, 0, 6), 1);
        due("SOLD again", x.sends(0, 0, 7), 0);
        Due.contract(x, 0, "");
        due("none CLEARED", x.sends(0, 0, 5), 300);
    }

    private static void t2SoldTheLeast() {
        HookUps x = members(3);
        kept(x, 0, 0);
        x.hour(0, 0, 0, 1, 0, 0, 2);
        x.hour(0, 0, 0, 1, 0, 0, 3);
        x.hour(0, 0, 0, 1, 0, 0, 3);
        due("the least that is sold to it", x.sends(0, 0, 0), 2);
        due("the least that is sold to it", x.sends(1, 0, 0), 1);
        due("SOLD to others alone", x.sends(2, 0, 0), 0);
        Due.contract(x, 0, "if sort=1:refuse;clear;");
        x.hour(0, 0, 1, 1, 0, 1, 1);
        x.hour(0, 0, 1, 1, 0, 0, 1);
        due("the least that it CLEARS", x.sends(0, 0, 1), 5);
    }

    private static void t2KeptTheLeast() {
        HookUps x = members(1);
        x.hour(1, 0, 0, 1, 0, 0, 0);
        x.hour(0, 0, 0, 1, 0, 1, 0);
        x.hour(0, 0, 0, 1, 0, 0, 0);
        x.hour(0, 0, 0, 1, 0, 0, 0);
        due("the least of its NETWORK", x.sends(0, 0, 0), 1);
        Due.contract(x, 0, "if sort=1:refuse;clear;");
        due("the least that it CLEARS", x.sends(0, 0, 0), 2);
    }

    private static void t2Own() {
        HookUps x = members(1);
        x.own(0, 1);
        kept(x, 0, 5);
        due("its OWN", x.sends(0, 0, 4), 200);
        due("an HOUR is ahead of it", x.sends(0, 0, 5), 0);
        due("no more of its OWN", x.sends(0, 0, 6), 300);
        x.cut(0, 0, 4, 4, 0);
        due("a BREAK is ahead of it", x.sends(0, 0, 4), 100);
        x.join(0, -1, 0);
        due("a member of none has its OWN", x.sends(0, 0, 5), 200);
    }

    private static void t2Dead() {
        HookUps x = members(1);
        due("nothing at all", x.sends(0, 0, 0), 300);
        due("the last of all", x.sends(0, 199, 47), 300);
        x.own(0, 254);
        due("its OWN but for that", x.sends(0, 0, 5), 300);
        due("its OWN", x.sends(0, 0, 6), 200);
    }

    private static void sents() {
        holds(EdgesOfSending::p23NobodyAndAll, promise(23, "Who SENDS an HOUR in the i-th SLOT of it, as bits."));
        holds(EdgesOfSending::p23NoSuchHour, promise(23, "NONE: there is none such"));
        holds(EdgesOfSending::p23NoSuchSlot, promise(23, "(of either;"));
        holds(EdgesOfSending::p23ByTheView, promise(23, "by THE VIEW)."));
    }

    private static void p23NobodyAndAll() {
        HookUps x = members(8);
        x.hour(0, 0, 0, 4, 0, 0, 0);
        due("all eight", x.sent(0, 0), 255);
        x.cut(0, 0, 1, 1, 0);
        x.cut(7, 0, 1, 1, 0);
        x.cut(-1, 0, 3, 3, 0);
        due("all but the first and the last", x.sent(0, 1), 126);
        due("all eight", x.sent(0, 2), 255);
        due("nobody", x.sent(0, 3), 0);
        HookUps y = towns(1);
        kept(y, 0, 0);
        due("without any STATION", y.sent(0, 0), 0);
    }

    private static void p23NoSuchHour() {
        HookUps x = members(1);
        none("no HOUR at all", x.sent(0, 0));
        kept(x, 0, 0);
        kept(x, 0, 1);
        refuses("HOUR", -1, 0, 1, hour -> x.sent(hour, 0));
        due("the last HOUR", x.sent(1, 0), 1);
    }

    private static void p23NoSuchSlot() {
        HookUps x = members(1);
        for (int slots = 1; slots <= 4; slots++) {
            int hour = x.hour(0, slots, 0, slots, 0, 0, 0);
            refuses("i of " + slots, -1, 0, slots - 1, i -> x.sent(hour, i));
            due("the last i", x.sent(hour, slots - 1), 1);
        }
    }

    private static void p23ByTheView() {
        HookUps x = members(1);
        x.day(5);
        kept(x, 9, 0);
        x.view(4);
        none("told the DAY behind", x.sent(0, 0));
        x.view(5);
        due("told on that DAY", x.sent(0, 0), 1);
        x.day(6);
        x.join(0, -1, 0);
        due("MEMBERSHIPS by THE VIEW", x.sent(0, 0), 1);
        x.view(-1);
        due("NOW", x.sent(0, 0), 0);
    }

    private static HookUps paying(String text) {
        HookUps x = members(2);
        Due.contract(x, 0, text);
        return x;
    }

    private static void paids() {
        plain(promise(28, "PAID."), terms(4, "SOLD time:"));
        holds(EdgesOfSending::t4DaysAToB, terms(4, "PAID to a STATION for DAYS a .. b:"));
        holds(EdgesOfSending::t4EachSlotSold, terms(4, "of each SLOT in which it SENDS an HOUR that is SOLD"));
        holds(EdgesOfSending::t4ThatNetworksContract, terms(4, "the PAY by that NETWORK's CONTRACT."));
        holds(EdgesOfSending::p28NoSuchStation, promise(28, "NONE: there is none such STATION"));
        holds(EdgesOfSending::p28OtherDays, promise(28, "or DAYS are not 0 .. 199"));
        holds(EdgesOfSending::p28AAboveB, promise(28, "or a above b."));
    }

    private static void t4DaysAToB() {
        HookUps x = paying("clear;pay 1;");
        int[] days = {0, 1, 198, 199};
        for (int k = 0; k < 4; k++) {
            x.hour(0, days[k], 0, k + 1, 0, 0, 1);
        }
        due("all DAYS", x.paid(0, 0, 199), 10);
        due("without the first", x.paid(0, 1, 199), 9);
        due("without the last", x.paid(0, 0, 198), 6);
        due("without both", x.paid(0, 1, 198), 5);
        due("between", x.paid(0, 2, 197), 0);
        due("the first alone", x.paid(0, 0, 0), 1);
        due("the last alone", x.paid(0, 199, 199), 4);
    }

    private static void t4EachSlotSold() {
        HookUps x = paying("if slot=3:refuse;clear;pay 9999;");
        x.hour(0, 0, 0, 4, 0, 0, 1);
        due("three of four", x.paid(0, 0, 0), 3 * 9999);
        x.cut(0, 0, 0, 0, 0);
        due("two of four", x.paid(0, 0, 0), 2 * 9999);
        due("not sold to it", x.paid(1, 0, 0), 0);
        x.hour(0, 1, 10, 4, 0, 0, 0);
        due("KEPT", x.paid(0, 1, 1), 0);
        x.hour(0, 2, 10, 2, 0, 0, 1);
        x.hour(0, 2, 10, 2, 0, 0, 1);
        due("of two at once the one that it SENDS", x.paid(0, 2, 2), 2 * 9999);
    }

    private static void t4ThatNetworksContract() {
        HookUps x = paying("clear;pay 3;");
        Due.contract(x, 2, "pay 5;clear;");
        x.join(0, 2, 4);
        x.hour(0, 3, 0, 1, 0, 0, 1);
        x.hour(2, 4, 0, 1, 0, 0, 1);
        x.hour(0, 4, 1, 1, 0, 0, 1);
        due("the last DAY in NETWORK 0", x.paid(0, 3, 3), 3);
        due("the first DAY in NETWORK 2", x.paid(0, 4, 4), 5);
        due("both", x.paid(0, 0, 199), 8);
        x.day(1);
        x.hour(2, 5, 0, 1, 0, 0, 1);
        x.join(0, -1, 4);
        due("a member no more", x.paid(0, 0, 199), 3);
        x.view(0);
        due("by THE VIEW", x.paid(0, 0, 199), 8);
    }

    private static void p28NoSuchStation() {
        HookUps x = stations(2);
        refuses("STATION", -1, 0, 1, station -> x.paid(station, 0, 199));
        due("the last STATION", x.paid(1, 0, 199), 0);
    }

    private static void p28OtherDays() {
        HookUps x = stations(1);
        refuses("a", -1, 0, 199, a -> x.paid(0, a, 199));
        refuses("b", -1, 0, 199, b -> x.paid(0, 0, b));
        none("both below", x.paid(0, -1, -1));
        none("both above", x.paid(0, 200, 200));
        due("0 and 199", x.paid(0, 0, 199), 0);
    }

    private static void p28AAboveB() {
        HookUps x = stations(1);
        none("just above", x.paid(0, 5, 4));
        none("far above", x.paid(0, 199, 0));
        due("the same", x.paid(0, 5, 5), 0);
    }

    private static void oweds() {
        plain(promise(29, "OWED back."), terms(4, "OWED back:"));
        holds(EdgesOfSending::t4OnTheseDays, terms(4, "of each SLOT of a SOLD HOUR on these DAYS,"));
        holds(EdgesOfSending::t4SoldToIt, terms(4, "sold to it, its NETWORK's member or not,"));
        holds(EdgesOfSending::t4NotSent, terms(4, "in which it does not SEND it, one."));
        holds(EdgesOfSending::p29AsPaid, promise(29, "NONE: as paid()."));
    }

    private static void t4OnTheseDays() {
        HookUps x = stations(1);
        int[] days = {0, 1, 198, 199};
        for (int k = 0; k < 4; k++) {
            x.hour(0, days[k], 0, k + 1, 0, 0, 1);
        }
        due("all DAYS", x.owed(0, 0, 199), 10);
        due("without the first", x.owed(0, 1, 199), 9);
        due("without the last", x.owed(0, 0, 198), 6);
        due("between", x.owed(0, 2, 197), 0);
        due("the first alone", x.owed(0, 0, 0), 1);
        due("the last alone", x.owed(0, 199, 199), 4);
    }

    private static void t4SoldToIt() {
        HookUps x = members(2);
        x.hour(0, 0, 0, 2, 0, 0, 1);
        x.hour(1, 1, 0, 3, 0, 0, 2);
        x.hour(2, 2, 0, 4, 0, 0, 0);
        due("a member, SENT", x.owed(0, 0, 199), 0);
        due("no member of that NETWORK", x.owed(1, 0, 199), 3);
        x.join(0, -1, 0);
        due("a member of none", x.owed(0, 0, 199), 2);
        x.day(1);
        x.hour(0, 5, 0, 1, 0, 0, 1);
        due("told later", x.owed(0, 0, 199), 3);
        x.view(0);
        due("by THE VIEW", x.owed(0, 0, 199), 2);
    }

    private static void t4NotSent() {
        HookUps x = members(1);
        x.hour(0, 0, 0, 4, 0, 0, 1);
        due("all are SENT", x.owed(0, 0, 0), 0);
        x.cut(0, 0, 3, 47, 0);
        due("all but the last", x.owed(0, 0, 0), 1);
        x.hour(0, 0, 0, 4, 0, 0, 1);
        due("none of the one behind", x.owed(0, 0, 0), 5);
        Due.contract(x, 0, "if slot<2:refuse;clear;");
        due("refused", x.owed(0, 0, 0), 7);
        Due.contract(x, 0, "refuse;");
        due("all are refused", x.owed(0, 0, 0), 8);
    }

    private static void p29AsPaid() {
        HookUps x = stations(2);
        refuses("STATION", -1, 0, 1, station -> x.owed(station, 0, 199));
        refuses("a", -1, 0, 199, a -> x.owed(0, a, 199));
        refuses("b", -1, 0, 199, b -> x.owed(0, 0, b));
        none("both below", x.owed(0, -1, -1));
        none("both above", x.owed(0, 200, 200));
        none("a just above b", x.owed(0, 5, 4));
        due("a is b", x.owed(1, 5, 5), 0);
    }

    private static void losts() {
        holds(EdgesOfSending::p30ByNumbers, promise(30, "The k-th LOST one, from 0 on, by numbers."));
        holds(EdgesOfSending::p30NoSuchStation, promise(30, "NONE: there is none such."));
        holds(EdgesOfSending::p30NoSuchLost, promise(30, "there is none such."));
        holds(EdgesOfSending::t4NoMemberOnItsDay, terms(4, "LOST ones of a STATION: HOURS SOLD to it on whose DAY it is no"
            + " member of that NETWORK."));
    }

    private static void p30ByNumbers() {
        HookUps x = stations(1);
        for (int hour = 0; hour < 24; hour++) {
            x.hour(0, 199 - hour, 0, 1, 0, 0, hour % 2);
        }
        for (int k = 0; k < 12; k++) {
            due("the next", x.lost(0, k), 2 * k + 1);
        }
        none("no more", x.lost(0, 12));
    }

    private static void p30NoSuchStation() {
        HookUps x = stations(2);
        x.hour(0, 0, 0, 1, 0, 0, 3);
        refuses("STATION", -1, 0, 1, station -> x.lost(station, 0));
        due("the last STATION", x.lost(1, 0), 0);
    }

    private static void p30NoSuchLost() {
        HookUps x = stations(1);
        none("none at all", x.lost(0, 0));
        x.hour(0, 0, 0, 1, 0, 0, 1);
        x.hour(1, 0, 0, 1, 0, 0, 1);
        refuses("k", -1, 0, 1, k -> x.lost(0, k));
        due("the last", x.lost(0, 1), 1);
    }

    private static void t4NoMemberOnItsDay() {
        HookUps x = stations(2);
        x.join(0, 0, 5);
        x.hour(0, 4, 47, 1, 0, 0, 1);
        x.hour(0, 5, 0, 1, 0, 0, 1);
        x.hour(1, 5, 0, 1, 0, 0, 1);
        x.hour(0, 4, 0, 1, 0, 0, 2);
        x.hour(0, 4, 0, 1, 0, 0, 0);
        due("the DAY ahead", x.lost(0, 0), 0);
        due("of another NETWORK", x.lost(0, 1), 2);
        none("no more: neither KEPT, nor SOLD to another", x.lost(0, 2));
        x.day(1);
        x.join(0, -1, 5);
        due("by one who leaves", x.lost(0, 1), 1);
        x.view(0);
        due("by THE VIEW", x.lost(0, 1), 2);
    }
}
