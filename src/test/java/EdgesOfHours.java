/** Boundary cases of promises 12 to 15: HOURS, BREAKS, OWN time, what an HOUR is. */
final class EdgesOfHours extends Edge {
    static void run() {
        hours();
        breaks();
        owns();
        abouts();
    }

    private static void hours() {
        holds(EdgesOfHours::p12Kept, promise(12, "An HOUR (stations 0: KEPT): its number."),
            terms(1, "SOLD to STATIONS (bits), or KEPT (no bits)."));
        holds(EdgesOfHours::p12ThereAre24, promise(12, "NONE: there are 24"), terms(1, "HOURS, at most 24, from 0 on:"));
        holds(EdgesOfHours::p12NoSuchNetwork, promise(12, "there is none such"), terms(1, "a NETWORK's,"));
        holds(EdgesOfHours::p12NoSuchDay, promise(12, "none such (of any)"), terms(1, "on a DAY,"));
        holds(EdgesOfHours::p12NoSuchSlot, promise(12, "such (of any)"), terms(1, "from a SLOT on,"));
        holds(EdgesOfHours::p12NoSuchTown, promise(12, "there is none such (of any)"), terms(1, "from a TOWN,"));
        holds(EdgesOfHours::p12BeyondTheDay, promise(12, "it goes beyond the DAY"), terms(1, "(within the DAY),"));
        holds(EdgesOfHours::p12OtherSlots, promise(12, "other numbers"), terms(1, "1 .. 4 SLOTS long"));
        holds(EdgesOfHours::p12OtherSort, promise(12, ", other numbers,"), terms(1, "of a SORT, 0 .. 7;"));
        holds(EdgesOfHours::p12NoStations, promise(12, "or bits that are no STATIONS."));
        holds(EdgesOfHours::t1ToldOnTheDayOfNow, terms(1, "All these are told on the DAY of now."));
    }

    private static void p12Kept() {
        HookUps x = members(2);
        due("the first", x.hour(0, 0, 0, 1, 0, 0, 0), 0);
        due("KEPT, none of the STATIONS", x.about(0, 6), 0);
        due("KEPT is for all", x.sent(0, 0), 3);
        due("the second", x.hour(0, 0, 1, 1, 0, 0, 1), 1);
        due("SOLD is for those", x.sent(1, 0), 1);
        none("KEPT is nobody's LOST one", x.lost(1, 0));
    }

    private static void p12ThereAre24() {
        HookUps x = members(1);
        for (int hour = 0; hour < 24; hour++) {
            due("hour", kept(x, 0, hour), hour);
        }
        none("a 25th", kept(x, 0, 24));
        due("there are 24", x.count(4), 24);
        due("the 24th is SENT", x.sends(0, 0, 23), 23);
        due("no 25th is", x.sends(0, 0, 24), 300);
        x.day(1);
        x.view(0);
        none("a 25th on a later DAY", kept(x, 1, 0));
    }

    private static void p12NoSuchNetwork() {
        HookUps x = stations(1);
        refuses("NETWORK", -1, 0, 2, network -> x.hour(network, 0, 0, 1, 0, 0, 0));
        due("none has come", x.count(4), 0);
        takes("NETWORK", 0, 2, network -> x.hour(network, 0, 0, 1, 0, 0, 0) == network);
    }

    private static void p12NoSuchDay() {
        HookUps x = stations(1);
        refuses("DAY", -1, 0, 199, day -> x.hour(0, day, 0, 1, 0, 0, 0));
        due("none has come", x.count(4), 0);
        due("DAY 0", kept(x, 0, 0), 0);
        due("DAY 199", kept(x, 199, 0), 1);
    }

    private static void p12NoSuchSlot() {
        HookUps x = stations(1);
        refuses("SLOT", -1, 0, 47, slot -> x.hour(0, 0, slot, 1, 0, 0, 0));
        due("none has come", x.count(4), 0);
        due("SLOT 0", kept(x, 0, 0), 0);
        due("SLOT 47", kept(x, 0, 47), 1);
    }

    private static void p12NoSuchTown() {
        HookUps x = towns(3);
        refuses("TOWN", -1, 0, 2, town -> x.hour(0, 0, 0, 1, town, 0, 0));
        due("none has come", x.count(4), 0);
        due("TOWN 2", x.hour(0, 0, 0, 1, 2, 0, 0), 0);
    }

    private static void p12BeyondTheDay() {
        HookUps x = stations(1);
        for (int slots = 2; slots <= 4; slots++) {
            none(slots + " SLOTS, one too late", x.hour(0, 0, 49 - slots, slots, 0, 0, 0));
            none(slots + " SLOTS from the last on", x.hour(0, 199, 47, slots, 0, 0, 0));
        }
        none("as long as can be", x.hour(0, 0, 47, MAX, 0, 0, 0));
        due("none has come", x.count(4), 0);
        takes("SLOTS up to the end", 1, 4, slots -> x.hour(0, 0, 48 - slots, slots, 0, 0, 0) == slots - 1);
    }

    private static void p12OtherSlots() {
        HookUps x = stations(1);
        refuses("SLOTS", -1, 1, 4, slots -> x.hour(0, 0, 0, slots, 0, 0, 0));
        due("none has come", x.count(4), 0);
        takes("SLOTS", 1, 4, slots -> x.hour(0, 0, 0, slots, 0, 0, 0) == slots - 1);
    }

    private static void p12OtherSort() {
        HookUps x = stations(1);
        refuses("SORT", -1, 0, 7, sort -> x.hour(0, 0, 0, 1, 0, sort, 0));
        due("none has come", x.count(4), 0);
        takes("SORT", 0, 7, sort -> x.hour(0, 0, 0, 1, 0, sort, 0) == sort);
    }

    private static void p12NoStations() {
        for (int stations = 0; stations <= 8; stations++) {
            HookUps x = stations(stations);
            int all = (1 << stations) - 1;
            refuses("bits, STATIONS " + stations, -1, 0, all, bits -> x.hour(0, 0, 0, 1, 0, 0, bits));
            none("one that is, one that is not", x.hour(0, 0, 0, 1, 0, 0, all + 2));
            none("the highest bit", x.hour(0, 0, 0, 1, 0, 0, 1 << 30));
            due("none has come", x.count(4), 0);
            due("all that are", x.hour(0, 0, 0, 1, 0, 0, all), 0);
        }
    }

    private static void t1ToldOnTheDayOfNow() {
        HookUps x = stations(1);
        kept(x, 5, 0);
        x.day(5);
        kept(x, 5, 0);
        x.day(199);
        kept(x, 0, 0);
        due("on DAY 0", x.about(0, 7), 0);
        due("on its own DAY", x.about(1, 7), 5);
        due("on the last DAY", x.about(2, 7), 199);
    }

    private static void breaks() {
        plain(promise(13, "A BREAK"), promise(13, "its number."));
        holds(EdgesOfHours::p13OfAll, promise(13, "(station NONE: of all):"), terms(1, "of one STATION or of all,"));
        holds(EdgesOfHours::p13ThereAre24, promise(13, "NONE: there are 24"), terms(1, "BREAKS, at most 24, from 0 on:"));
        holds(EdgesOfHours::p13NoSuchStation, promise(13, "there is none such"));
        holds(EdgesOfHours::p13NoSuchDay, promise(13, "none such (of any)"));
        holds(EdgesOfHours::p13NoSuchSlots, promise(13, "there is none such (of any)"),
            terms(1, "on a DAY from a SLOT to a SLOT,"));
        holds(EdgesOfHours::p13FromAboveTo, promise(13, "from is above to"));
        holds(EdgesOfHours::p13OtherRank, promise(13, "or another RANK."), terms(1, "with a RANK, 0 .. 9."));
    }

    private static void p13OfAll() {
        HookUps x = stations(8);
        due("of all", x.cut(HookUps.NONE, 3, 4, 4, 0), 0);
        due("of one", x.cut(7, 3, 5, 5, 0), 1);
        for (int station = 0; station < 8; station++) {
            due("of all, STATION " + station, x.sends(station, 3, 4), 100);
            due("of one, STATION " + station, x.sends(station, 3, 5), station == 7 ? 101 : 300);
        }
    }

    private static void p13ThereAre24() {
        HookUps x = stations(1);
        for (int cut = 0; cut < 24; cut++) {
            due("cut", x.cut(0, 0, cut, cut, 0), cut);
        }
        none("a 25th", x.cut(0, 0, 24, 24, 9));
        due("there are 24", x.count(5), 24);
        due("the 24th", x.sends(0, 0, 23), 123);
        due("no 25th", x.sends(0, 0, 24), 300);
    }

    private static void p13NoSuchStation() {
        HookUps x = stations(2);
        refuses("STATION", -1, -1, 1, station -> x.cut(station, 0, 0, 0, 0));
        due("none has come", x.count(5), 0);
        due("the last STATION", x.cut(1, 0, 0, 0, 0), 0);
    }

    private static void p13NoSuchDay() {
        HookUps x = stations(1);
        refuses("DAY", -1, 0, 199, day -> x.cut(0, day, 0, 0, 0));
        due("none has come", x.count(5), 0);
        due("DAY 0", x.cut(0, 0, 0, 0, 0), 0);
        due("DAY 199", x.cut(0, 199, 0, 0, 0), 1);
    }

    private static void p13NoSuchSlots() {
        HookUps x = stations(1);
        refuses("from", -1, 0, 47, from -> x.cut(0, 0, from, 47, 0));
        refuses("to", -1, 0, 47, to -> x.cut(0, 0, 0, to, 0));
        none("both beyond", x.cut(0, 0, 48, 48, 0));
        none("both below", x.cut(0, 0, -1, -1, 0));
        due("none has come", x.count(5), 0);
        due("the whole DAY", x.cut(0, 1, 0, 47, 0), 0);
        due("the first SLOT", x.sends(0, 1, 0), 100);
        due("the last SLOT", x.sends(0, 1, 47), 100);
        due("the DAY ahead", x.sends(0, 0, 47), 300);
        due("the DAY behind", x.sends(0, 2, 0), 300);
    }

    private static void p13FromAboveTo() {
        HookUps x = stations(1);
        none("just above", x.cut(0, 0, 5, 4, 0));
        none("far above", x.cut(0, 0, 47, 0, 0));
        due("none has come", x.count(5), 0);
        due("the same", x.cut(0, 0, 5, 5, 0), 0);
        due("ahead of it", x.sends(0, 0, 4), 300);
        due("it", x.sends(0, 0, 5), 100);
        due("behind it", x.sends(0, 0, 6), 300);
    }

    private static void p13OtherRank() {
        HookUps x = stations(1);
        refuses("RANK", -1, 0, 9, rank -> x.cut(0, 0, 0, 0, rank));
        due("none has come", x.count(5), 0);
        due("RANK 0", x.cut(0, 0, 0, 0, 0), 0);
        due("RANK 9", x.cut(0, 0, 0, 0, 9), 1);
    }

    private static void owns() {
        plain(promise(14, "true;"));
        holds(EdgesOfHours::p14FromNowOn, promise(14, "OWN time of a STATION from now on"));
        holds(EdgesOfHours::p14Bits, promise(14, "(bits 0 .. 7):"));
        holds(EdgesOfHours::p14NoSuchStation, promise(14, "false: there is none such"));
        holds(EdgesOfHours::p14Others, promise(14, "or others."));
        holds(EdgesOfHours::t1SixSlots, terms(1, "(bits of six SLOTS each: bit k: SLOTS 6 k .. 6 k + 5;"));
        holds(EdgesOfHours::t1NoneAtFirst, terms(1, "none at first)."));
        holds(EdgesOfHours::t1LocalSlots, terms(1, "OWN time of a STATION: LOCAL SLOTS"));
    }

    private static void p14FromNowOn() {
        HookUps x = stations(2);
        x.own(0, 1);
        due("told", x.sends(0, 0, 0), 200);
        due("not the other's", x.sends(1, 0, 0), 300);
        x.own(0, 2);
        due("told anew, no more", x.sends(0, 0, 0), 300);
        due("told anew", x.sends(0, 0, 6), 200);
        due("on the last DAY", x.sends(0, 199, 6), 200);
        x.own(0, 0);
        due("none again", x.sends(0, 0, 6), 300);
    }

    private static void p14Bits() {
        HookUps x = stations(1);
        due("all bits", x.own(0, 255), true);
        due("the first SLOT", x.sends(0, 0, 0), 200);
        due("the last SLOT", x.sends(0, 0, 47), 200);
        due("no bits", x.own(0, 0), true);
        due("no SLOT", x.sends(0, 0, 0), 300);
        due("bit 7 alone", x.own(0, 128), true);
        due("its last SLOT", x.sends(0, 0, 47), 200);
    }

    private static void p14NoSuchStation() {
        HookUps x = stations(2);
        refuses("STATION", 0, 1, station -> x.own(station, 1));
        due("none has it", x.sends(0, 0, 0) + x.sends(1, 0, 0), 600);
        due("the last STATION", x.own(1, 1), true);
    }

    private static void p14Others() {
        HookUps x = stations(1);
        x.own(0, 129);
        refuses("bits", 0, 255, bits -> x.own(0, bits));
        due("bit 8 and bit 1", x.own(0, 258), false);
        due("it stays", x.sends(0, 0, 0), 200);
        due("it stays", x.sends(0, 0, 6), 300);
        due("it stays", x.sends(0, 0, 47), 200);
    }

    private static void t1SixSlots() {
        HookUps x = stations(1);
        for (int bit = 0; bit < 8; bit++) {
            x.own(0, 1 << bit);
            due("its first SLOT", x.sends(0, 0, 6 * bit), 200);
            due("its last SLOT", x.sends(0, 0, 6 * bit + 5), 200);
            due("the SLOT ahead", x.sends(0, 1, (6 * bit + 47) % 48), 300);
            due("the SLOT behind", x.sends(0, 1, (6 * bit + 6) % 48), 300);
        }
    }

    private static void t1NoneAtFirst() {
        HookUps x = stations(8);
        for (int station = 0; station < 8; station++) {
            for (int slot = 0; slot < 48; slot += 6) {
                due("none", x.sends(station, 0, slot), 300);
            }
        }
    }

    private static void t1LocalSlots() {
        HookUps x = towns(1);
        x.station(0, 3, 1);
        x.own(0, 1);
        due("LOCAL SLOT 47 of the DAY ahead", x.sends(0, 0, 5), 300);
        due("LOCAL SLOT 0", x.sends(0, 0, 6), 200);
        due("LOCAL SLOT 5", x.sends(0, 0, 11), 200);
        due("LOCAL SLOT 6", x.sends(0, 0, 12), 300);
        x.own(0, 128);
        due("LOCAL SLOT 42 of DAY -1", x.sends(0, 0, 0), 200);
        due("LOCAL SLOT 47 of DAY -1", x.sends(0, 0, 5), 200);
        due("LOCAL SLOT 0 of DAY 0", x.sends(0, 0, 6), 300);
        due("LOCAL SLOT 41 of DAY 199", x.sends(0, 199, 47), 300);
        x.summer(3, 199, 199);
        due("LOCAL SLOT 43 in SUMMER", x.sends(0, 199, 47), 200);
        due("LOCAL SLOT 42 in SUMMER", x.sends(0, 199, 46), 200);
        due("LOCAL SLOT 41 in SUMMER", x.sends(0, 199, 45), 300);
        HookUps y = stations(1);
        y.summer(0, 199, 199);
        y.own(0, 1);
        due("LOCAL SLOT 47", y.sends(0, 199, 45), 300);
        due("LOCAL SLOT 0 of DAY 200", y.sends(0, 199, 46), 200);
    }

    private static void abouts() {
        holds(EdgesOfHours::p15LeastAndMost, promise(15, "what 0: NETWORK, 1: DAY, 2: SLOT, 3: SLOTS, 4: TOWN, 5: SORT,"
            + " 6: STATIONS, 7: the DAY on which it was told."));
        holds(EdgesOfHours::p15WhateverTheView, promise(15, "Of an HOUR (whatever THE VIEW),"));
        holds(EdgesOfHours::p15NoSuchHour, promise(15, "-2 if there is none such"));
        holds(EdgesOfHours::p15AnotherWhat, promise(15, "or for another what."));
    }

    private static void p15LeastAndMost() {
        HookUps x = towns(8);
        for (int town = 0; town < 8; town++) {
            x.station(town, 0, 1);
        }
        x.hour(0, 0, 0, 1, 0, 0, 0);
        x.day(199);
        x.hour(2, 199, 44, 4, 7, 7, 255);
        int[] least = {0, 0, 0, 1, 0, 0, 0, 0};
        int[] most = {2, 199, 44, 4, 7, 7, 255, 199};
        for (int what = 0; what < 8; what++) {
            due("the least, what " + what, x.about(0, what), least[what]);
            due("the most, what " + what, x.about(1, what), most[what]);
        }
    }

    private static void p15WhateverTheView() {
        HookUps x = stations(1);
        x.day(5);
        kept(x, 9, 3);
        x.view(4);
        none("THE VIEW has it not", x.sent(0, 0));
        due("its DAY", x.about(0, 1), 9);
        due("when it was told", x.about(0, 7), 5);
    }

    private static void p15NoSuchHour() {
        HookUps x = stations(1);
        due("no HOUR at all", x.about(0, 0), -2);
        kept(x, 0, 0);
        kept(x, 0, 0);
        refuses("HOUR", -2, 0, 1, hour -> x.about(hour, 0));
        due("the last HOUR", x.about(1, 0), 0);
    }

    private static void p15AnotherWhat() {
        HookUps x = stations(1);
        kept(x, 0, 0);
        refuses("what", -2, 0, 7, what -> x.about(0, what));
        due("neither HOUR nor what", x.about(1, 8), -2);
    }
}
