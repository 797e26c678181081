import java.util.ArrayList;

/** Stations strung on telephone wires into networks by the half hour. The promises stand in DOC.md. */
public final class HookUps {
    public static final int NONE = -1;

    /** What about() and count() answer to what there is not, since NONE is an answer there. */
    private static final int NO_SUCH = -2;
    /** What local() answers to what there is not, since LOCAL PLACES may be below 0. */
    private static final int NO_LOCAL = -1000;

    private static final int MOST_TOWNS = 8;
    private static final int MOST_WIRES = 12;
    private static final int MOST_MILES = 999;
    private static final int MOST_CIRCUITS = 3;
    private static final int MOST_STATIONS = 8;
    private static final int MOST_POWER = 99;
    private static final int ZONES = 4;
    private static final int NETWORKS = 3;
    private static final int DAYS = 200;
    private static final int SLOTS = 48;
    private static final int ZONE_SLOTS = 2;
    private static final int WEEK = 7;
    private static final int MOST_MEMBERSHIPS = 40;
    private static final int MOST_HOURS = 24;
    private static final int LONGEST_HOUR = 4;
    private static final int SORTS = 8;
    private static final int MOST_BREAKS = 24;
    private static final int RANKS = 10;
    private static final int OWN_BITS = 8;
    private static final int OWN_SLOTS = 6;
    private static final int MOST_TAPE = 500;
    private static final int FED = 20;
    private static final int MOST_LINES = 16;
    private static final int MOST_TESTS = 4;
    private static final int MOST_HANDS = 3;
    private static final int PULL_SECONDS = 2;
    private static final int PUT_SECONDS = 3;
    private static final int MOST_THINGS = 7;
    private static final int MOST_CALLS = 40;
    private static final int MOST_CALLED = 999;
    private static final int CALLS_ROW = 3;
    private static final int MOST_PIECES = 6;
    private static final int TURNS = 6;
    private static final int MOST_WORTH = 9999;
    private static final int IMAGES = 3;

    private static final int SENDS_BREAK = 100;
    private static final int SENDS_OWN = 200;
    private static final int SENDS_NOTHING = 300;

    private static final int FAULT_TEXT = 1;
    private static final int FAULT_TOO_MANY = 3;

    /** Above every time, every weight and every sum of them. */
    private static final int ENDLESS = 1000000000;

    private final Told told = new Told();
    private final Told[] images = new Told[IMAGES];
    private final Wiring wiring = new Wiring();
    private final Wiring wiringAhead = new Wiring();
    private final Shift shift = new Shift();
    private final Reader reader = new Reader();

    public HookUps() {
    }

    public int town() {
        if (told.towns >= MOST_TOWNS) {
            return NONE;
        }
        told.towns++;
        return told.towns - 1;
    }

    public int wire(int a, int b, int miles, int circuits) {
        if (told.wires.size() >= MOST_WIRES || !isTown(a) || !isTown(b) || a == b
                || !within(miles, 1, MOST_MILES) || !within(circuits, 1, MOST_CIRCUITS)) {
            return NONE;
        }
        told.wires.add(new Wire(a, b, miles, circuits));
        return told.wires.size() - 1;
    }

    public int station(int town, int zone, int power) {
        if (told.stations.size() >= MOST_STATIONS || !isTown(town) || !isZone(zone)
                || !within(power, 1, MOST_POWER)) {
            return NONE;
        }
        told.stations.add(new Station(town, zone, power));
        return told.stations.size() - 1;
    }

    public boolean summer(int zone, int from, int to) {
        if (!isZone(zone) || !isDay(from) || !isDay(to)) {
            return false;
        }
        told.summers[2 * zone] = from;
        told.summers[2 * zone + 1] = to;
        return true;
    }

    public int local(int zone, int day, int slot) {
        if (!isZone(zone) || !isDay(day) || !isSlot(slot)) {
            return NO_LOCAL;
        }
        return told.localPlace(zone, SLOTS * day + slot);
    }

    public int twice(int zone, int day, int slot) {
        if (!isZone(zone) || !within(day, -1, DAYS) || !isSlot(slot)) {
            return NONE;
        }
        int localPlace = SLOTS * day + slot;
        int plain = localPlace + ZONE_SLOTS * zone;
        int summery = plain - ZONE_SLOTS;
        int times = 0;
        if (isPlace(plain) && told.localPlace(zone, plain) == localPlace) {
            times++;
        }
        if (isPlace(summery) && told.localPlace(zone, summery) == localPlace) {
            times++;
        }
        return times;
    }

    public boolean day(int day) {
        if (!isDay(day) || day < told.now) {
            return false;
        }
        told.now = day;
        return true;
    }

    public boolean view(int day) {
        if (!within(day, NONE, told.now)) {
            return false;
        }
        told.view = day;
        return true;
    }

    public boolean join(int station, int network, int from) {
        if (told.memberships.size() >= MOST_MEMBERSHIPS || !isStation(station)
                || !(network == NONE || isNetwork(network)) || !isDay(from)) {
            return false;
        }
        told.memberships.add(new Membership(station, network, from, told.now));
        return true;
    }

    public int member(int station, int day) {
        if (!isStation(station) || !isDay(day)) {
            return NONE;
        }
        return told.networkOn(station, day);
    }

    public int hour(int network, int day, int slot, int slots, int town, int sort, int stations) {
        if (told.hours.size() >= MOST_HOURS || !isNetwork(network) || !isDay(day) || !isSlot(slot)
                || !within(slots, 1, LONGEST_HOUR) || slot + slots > SLOTS || !isTown(town)
                || !isSort(sort) || !within(stations, 0, (1 << told.stations.size()) - 1)) {
            return NONE;
        }
        told.hours.add(new Hour(network, SLOTS * day + slot, slots, town, sort, stations, told.now));
        return told.hours.size() - 1;
    }

    public int cut(int station, int day, int from, int to, int rank) {
        if (told.breaks.size() >= MOST_BREAKS || !(station == NONE || isStation(station)) || !isDay(day)
                || !isSlot(from) || !isSlot(to) || from > to || !within(rank, 0, RANKS - 1)) {
            return NONE;
        }
        int dayPlace = SLOTS * day;
        told.breaks.add(new Break(station, dayPlace + from, dayPlace + to, rank, told.now));
        return told.breaks.size() - 1;
    }

    public boolean own(int station, int bits) {
        if (!isStation(station) || !within(bits, 0, (1 << OWN_BITS) - 1)) {
            return false;
        }
        told.own[station] = bits;
        return true;
    }

    public int about(int hour, int what) {
        if (!within(hour, 0, told.hours.size() - 1)) {
            return NO_SUCH;
        }
        Hour asked = told.hours.get(hour);
        switch (what) {
            case 0: return asked.network;
            case 1: return asked.place / SLOTS;
            case 2: return asked.place % SLOTS;
            case 3: return asked.slots;
            case 4: return asked.town;
            case 5: return asked.sort;
            case 6: return asked.stations;
            case 7: return asked.toldOn;
            default: return NO_SUCH;
        }
    }

    public int feed(int a, int b, int c, int d, int e) {
        if (told.tapeLength + FED > MOST_TAPE) {
            return NONE;
        }
        told.putOnTape(a);
        told.putOnTape(b);
        told.putOnTape(c);
        told.putOnTape(d);
        told.putOnTape(e);
        return told.tapeLength;
    }

    public int end(int n) {
        if (!within(n, 0, told.tapeLength)) {
            return NONE;
        }
        told.tapeLength = n;
        return n;
    }

    public int contract(int network) {
        int length = told.tapeLength;
        told.tapeLength = 0;
        told.fault = 0;
        told.faultPlace = NONE;
        if (!isNetwork(network)) {
            return NO_SUCH;
        }
        reader.split(told.tape, length);
        reader.readText();
        if (reader.fault != 0) {
            told.fault = reader.fault;
            told.faultPlace = reader.faultPlace;
            return NONE;
        }
        told.contracts[network] = reader.read;
        return reader.read.lines;
    }

    public int fault(int what) {
        switch (what) {
            case 0: return told.fault;
            case 1: return told.faultPlace;
            default: return NONE;
        }
    }

    public boolean clears(int station, int hour, int i) {
        if (!isStation(station) || !isSeenSlot(hour, i)) {
            return false;
        }
        Hour asked = told.hours.get(hour);
        int line = told.lineFor(station, asked, asked.place + i, false);
        return told.contracts[asked.network].clearsBy(line);
    }

    public int why(int station, int hour, int i, boolean pay) {
        if (!isStation(station) || !isSeenSlot(hour, i)) {
            return NONE;
        }
        Hour asked = told.hours.get(hour);
        return told.lineFor(station, asked, asked.place + i, pay);
    }

    public int sends(int station, int day, int slot) {
        if (!isStation(station) || !isDay(day) || !isSlot(slot)) {
            return NONE;
        }
        return told.sentAt(station, SLOTS * day + slot);
    }

    public int sent(int hour, int i) {
        if (!isSeenSlot(hour, i)) {
            return NONE;
        }
        int place = told.hours.get(hour).place + i;
        int bits = 0;
        for (int station = 0; station < told.stations.size(); station++) {
            if (told.sentAt(station, place) == hour) {
                bits |= 1 << station;
            }
        }
        return bits;
    }

    public int miles(int hour, int i) {
        if (!isSeenSlot(hour, i)) {
            return NONE;
        }
        wiring.lay(told, told.hours.get(hour).place + i);
        return wiring.milesOf(told, hour);
    }

    public int string(int hour, int i) {
        if (!isSeenSlot(hour, i)) {
            return NONE;
        }
        wiring.lay(told, told.hours.get(hour).place + i);
        return wiring.strings[hour];
    }

    public boolean hands(int hands) {
        if (!within(hands, 1, MOST_HANDS)) {
            return false;
        }
        told.hands = hands;
        return true;
    }

    public int change(int day, int slot, int what) {
        if (!isDay(day) || !isSlot(slot) || !within(what, 0, 2)) {
            return NONE;
        }
        int place = SLOTS * day + slot;
        wiringAhead.lay(told, place - 1);
        wiring.lay(told, place);
        shift.compare(told, wiringAhead, wiring);
        if (what == 0) {
            return shift.pulled;
        }
        return what == 1 ? shift.put : shift.leastSeconds(told.hands);
    }

    public int paid(int station, int a, int b) {
        if (!isStation(station) || !isDay(a) || !isDay(b) || a > b) {
            return NONE;
        }
        int sum = 0;
        for (int hour = 0; hour < told.hours.size(); hour++) {
            Hour asked = told.hours.get(hour);
            if (told.isSoldTo(asked, station) && within(asked.place / SLOTS, a, b)) {
                sum += told.payFor(station, hour);
            }
        }
        return sum;
    }

    public int owed(int station, int a, int b) {
        if (!isStation(station) || !isDay(a) || !isDay(b) || a > b) {
            return NONE;
        }
        int sum = 0;
        for (int hour = 0; hour < told.hours.size(); hour++) {
            Hour asked = told.hours.get(hour);
            if (told.isSoldTo(asked, station) && within(asked.place / SLOTS, a, b)) {
                sum += asked.slots - told.slotsSent(station, hour);
            }
        }
        return sum;
    }

    public int lost(int station, int k) {
        if (!isStation(station) || k < 0) {
            return NONE;
        }
        int ahead = k;
        for (int hour = 0; hour < told.hours.size(); hour++) {
            Hour asked = told.hours.get(hour);
            if (told.isSoldTo(asked, station)
                    && told.networkOn(station, asked.place / SLOTS) != asked.network) {
                if (ahead == 0) {
                    return hour;
                }
                ahead--;
            }
        }
        return NONE;
    }

    public int calls(int station, int called, int heard) {
        if (told.calls >= MOST_CALLS || !isStation(station) || !within(called, 1, MOST_CALLED)
                || !within(heard, 0, called)) {
            return NONE;
        }
        int at = CALLS_ROW * told.calls;
        told.callsRows[at] = station;
        told.callsRows[at + 1] = called;
        told.callsRows[at + 2] = heard;
        told.calls++;
        return told.calls - 1;
    }

    public int call(int k, int what) {
        if (!isCalls(k)) {
            return NONE;
        }
        if (within(what, 0, CALLS_ROW - 1)) {
            return told.callsRows[CALLS_ROW * k + what];
        }
        return what == CALLS_ROW ? shareOf(k) : NONE;
    }

    public boolean apart(int a, int b) {
        if (!isCalls(a) || !isCalls(b)) {
            return false;
        }
        // Longs, since the square alone goes beyond an int.
        long n = told.callsRows[CALLS_ROW * a + 1];
        long m = told.callsRows[CALLS_ROW * b + 1];
        long k = told.callsRows[CALLS_ROW * a + 2];
        long l = told.callsRows[CALLS_ROW * b + 2];
        long gap = k * m - l * n;
        return gap * gap * (n + m) > 4 * (k + l) * (n + m - k - l) * n * m;
    }

    public int piece(int sort) {
        if (told.evening.pieces >= MOST_PIECES || !isSort(sort)) {
            return NONE;
        }
        return told.evening.addPiece(sort);
    }

    public boolean worth(int piece, int turn, int worth) {
        if (!within(piece, 0, told.evening.pieces - 1) || !within(turn, 0, TURNS - 1)
                || !within(worth, 0, MOST_WORTH)) {
            return false;
        }
        told.evening.worths[TURNS * piece + turn] = worth;
        return true;
    }

    public int plan(int what) {
        if (!within(what, 0, told.evening.pieces)) {
            return NONE;
        }
        told.evening.findBest();
        if (told.evening.best == NONE) {
            return NONE;
        }
        return what == 0 ? told.evening.best : told.evening.bestRow[what - 1];
    }

    public int count(int what) {
        switch (what) {
            case 0: return told.towns;
            case 1: return told.wires.size();
            case 2: return told.stations.size();
            case 3: return told.memberships.size();
            case 4: return told.hours.size();
            case 5: return told.breaks.size();
            case 6: return told.calls;
            case 7: return told.evening.pieces;
            case 8: return told.now;
            case 9: return told.view;
            case 10: return told.contracts[0].lines;
            case 11: return told.contracts[1].lines;
            case 12: return told.contracts[2].lines;
            case 13: return told.hands;
            default: return NO_SUCH;
        }
    }

    public boolean image(int k) {
        if (!within(k, 0, IMAGES - 1)) {
            return false;
        }
        if (images[k] == null) {
            images[k] = new Told();
        }
        images[k].takeAll(told);
        return true;
    }

    public boolean again(int k) {
        if (!within(k, 0, IMAGES - 1) || images[k] == null) {
            return false;
        }
        told.takeAll(images[k]);
        return true;
    }

    private static boolean within(int number, int least, int most) {
        return number >= least && number <= most;
    }

    private static boolean isDay(int day) {
        return within(day, 0, DAYS - 1);
    }

    private static boolean isSlot(int slot) {
        return within(slot, 0, SLOTS - 1);
    }

    private static boolean isPlace(int place) {
        return within(place, 0, DAYS * SLOTS - 1);
    }

    private static boolean isZone(int zone) {
        return within(zone, 0, ZONES - 1);
    }

    private static boolean isNetwork(int network) {
        return within(network, 0, NETWORKS - 1);
    }

    private static boolean isSort(int sort) {
        return within(sort, 0, SORTS - 1);
    }

    private boolean isTown(int town) {
        return within(town, 0, told.towns - 1);
    }

    private boolean isStation(int station) {
        return within(station, 0, told.stations.size() - 1);
    }

    private boolean isCalls(int k) {
        return within(k, 0, told.calls - 1);
    }

    private int shareOf(int k) {
        int called = told.callsRows[CALLS_ROW * k + 1];
        int heard = told.callsRows[CALLS_ROW * k + 2];
        return called > 0 ? 1000 * heard / called : 0;
    }

    /** Whether THE VIEW has that HOUR, and the HOUR an i-th SLOT. */
    private boolean isSeenSlot(int hour, int i) {
        if (!within(hour, 0, told.hours.size() - 1)) {
            return false;
        }
        Hour asked = told.hours.get(hour);
        return told.isSeen(asked.toldOn) && within(i, 0, asked.slots - 1);
    }

    private static final class Wire {
        final int a;
        final int b;
        final int miles;
        final int circuits;

        Wire(int a, int b, int miles, int circuits) {
            this.a = a;
            this.b = b;
            this.miles = miles;
            this.circuits = circuits;
        }
    }

    private static final class Station {
        final int town;
        final int zone;
        final int power;

        Station(int town, int zone, int power) {
            this.town = town;
            this.zone = zone;
            this.power = power;
        }
    }

    private static final class Membership {
        final int station;
        final int network;
        final int from;
        final int toldOn;

        Membership(int station, int network, int from, int toldOn) {
            this.station = station;
            this.network = network;
            this.from = from;
            this.toldOn = toldOn;
        }
    }

    private static final class Hour {
        final int network;
        final int place;
        final int slots;
        final int town;
        final int sort;
        final int stations;
        final int toldOn;

        Hour(int network, int place, int slots, int town, int sort, int stations, int toldOn) {
            this.network = network;
            this.place = place;
            this.slots = slots;
            this.town = town;
            this.sort = sort;
            this.stations = stations;
            this.toldOn = toldOn;
        }

        boolean isOnAt(int asked) {
            return asked >= place && asked < place + slots;
        }
    }

    private static final class Break {
        final int station;
        final int fromPlace;
        final int toPlace;
        final int rank;
        final int toldOn;

        Break(int station, int fromPlace, int toPlace, int rank, int toldOn) {
            this.station = station;
            this.fromPlace = fromPlace;
            this.toPlace = toPlace;
            this.rank = rank;
            this.toldOn = toldOn;
        }

        boolean covers(int ofStation, int place) {
            return (station == NONE || station == ofStation) && place >= fromPlace && place <= toPlace;
        }
    }

    /**
     * All that is told, and who SENDS what by it. What the lists hold is never changed once it is made, so
     * an image takes the references alone.
     */
    private static final class Told {
        int towns;
        final ArrayList<Wire> wires = new ArrayList<>();
        final ArrayList<Station> stations = new ArrayList<>();
        final int[] own = new int[MOST_STATIONS];
        /** By ZONE: the first and the last DAY of its SUMMER, the last ahead of the first if there is none. */
        final int[] summers = new int[2 * ZONES];
        final ArrayList<Membership> memberships = new ArrayList<>();
        final ArrayList<Hour> hours = new ArrayList<>();
        final ArrayList<Break> breaks = new ArrayList<>();
        int now;
        int view = NONE;
        int hands = 1;
        final byte[] tape = new byte[MOST_TAPE];
        int tapeLength;
        int fault;
        int faultPlace = NONE;
        final Contract[] contracts = new Contract[NETWORKS];
        int calls;
        /** CALLS_ROW numbers each: STATION, called, heard. */
        final int[] callsRows = new int[CALLS_ROW * MOST_CALLS];
        final Evening evening = new Evening();
        /** What the TESTS of a CONTRACT ask, written anew for each STATION, HOUR and SLOT. */
        private final int[] facts = new int[Contract.SUBJECTS];

        Told() {
            for (int zone = 0; zone < ZONES; zone++) {
                summers[2 * zone + 1] = NONE;
            }
            Contract empty = new Contract();
            for (int network = 0; network < NETWORKS; network++) {
                contracts[network] = empty;
            }
        }

        void takeAll(Told from) {
            takeLists(from);
            takeRows(from);
            towns = from.towns;
            now = from.now;
            view = from.view;
            hands = from.hands;
            tapeLength = from.tapeLength;
            fault = from.fault;
            faultPlace = from.faultPlace;
            calls = from.calls;
            evening.takeAll(from.evening);
        }

        private void takeLists(Told from) {
            wires.clear();
            for (int k = 0; k < from.wires.size(); k++) {
                wires.add(from.wires.get(k));
            }
            stations.clear();
            for (int k = 0; k < from.stations.size(); k++) {
                stations.add(from.stations.get(k));
            }
            memberships.clear();
            for (int k = 0; k < from.memberships.size(); k++) {
                memberships.add(from.memberships.get(k));
            }
            hours.clear();
            for (int k = 0; k < from.hours.size(); k++) {
                hours.add(from.hours.get(k));
            }
            breaks.clear();
            for (int k = 0; k < from.breaks.size(); k++) {
                breaks.add(from.breaks.get(k));
            }
        }

        private void takeRows(Told from) {
            System.arraycopy(from.own, 0, own, 0, MOST_STATIONS);
            System.arraycopy(from.summers, 0, summers, 0, 2 * ZONES);
            System.arraycopy(from.tape, 0, tape, 0, MOST_TAPE);
            System.arraycopy(from.callsRows, 0, callsRows, 0, CALLS_ROW * MOST_CALLS);
            for (int network = 0; network < NETWORKS; network++) {
                contracts[network] = from.contracts[network];
            }
        }

        void putOnTape(int four) {
            for (int shift = 24; shift >= 0 && tapeLength < MOST_TAPE; shift -= 8) {
                tape[tapeLength] = (byte) (four >> shift);
                tapeLength++;
            }
        }

        boolean isSeen(int toldOn) {
            return view == NONE || toldOn <= view;
        }

        private boolean isSummer(int zone, int day) {
            return day >= summers[2 * zone] && day <= summers[2 * zone + 1];
        }

        int localPlace(int zone, int place) {
            int winter = place - ZONE_SLOTS * zone;
            return isSummer(zone, place / SLOTS) ? winter + ZONE_SLOTS : winter;
        }

        int networkOn(int station, int day) {
            int network = NONE;
            int latest = 0;
            for (int k = 0; k < memberships.size(); k++) {
                Membership one = memberships.get(k);
                if (one.station == station && isSeen(one.toldOn) && one.from <= day && one.from >= latest) {
                    latest = one.from;
                    network = one.network;
                }
            }
            return network;
        }

        boolean isSoldTo(Hour hour, int station) {
            return isSeen(hour.toldOn) && (hour.stations >> station & 1) == 1;
        }

        /** The LINE that tells whether a STATION CLEARS an HOUR, or the one that tells its PAY. */
        int lineFor(int station, Hour what, int place, boolean pay) {
            Station who = stations.get(station);
            int day = place / SLOTS;
            int localPlace = localPlace(who.zone, place);
            facts[Contract.SOLD] = what.stations != 0 ? 1 : 0;
            facts[Contract.SUMMER] = isSummer(who.zone, day) ? 1 : 0;
            facts[Contract.SLOT] = Math.floorMod(localPlace, SLOTS);
            facts[Contract.POWER] = who.power;
            facts[Contract.NOTICE] = Math.max(0, day - what.toldOn);
            facts[Contract.ZONE] = who.zone;
            facts[Contract.SORT] = what.sort;
            facts[Contract.LONG] = what.slots;
            facts[Contract.WEEKDAY] = (Math.floorDiv(localPlace, SLOTS) + WEEK) % WEEK;
            return contracts[what.network].firstLine(facts, pay);
        }

        int sentAt(int station, int place) {
            int cut = breakAt(station, place);
            if (cut != NONE) {
                return SENDS_BREAK + cut;
            }
            int hour = hourAt(station, place);
            if (hour != NONE) {
                return hour;
            }
            int localSlot = Math.floorMod(localPlace(stations.get(station).zone, place), SLOTS);
            boolean owns = (own[station] >> (localSlot / OWN_SLOTS) & 1) == 1;
            return owns ? SENDS_OWN : SENDS_NOTHING;
        }

        private int breakAt(int station, int place) {
            int strongest = NONE;
            int rank = 0;
            for (int k = 0; k < breaks.size(); k++) {
                Break one = breaks.get(k);
                if (isSeen(one.toldOn) && one.covers(station, place) && one.rank >= rank) {
                    rank = one.rank;
                    strongest = k;
                }
            }
            return strongest;
        }

        private int hourAt(int station, int place) {
            int network = networkOn(station, place / SLOTS);
            if (network == NONE) {
                return NONE;
            }
            int kept = NONE;
            for (int hour = 0; hour < hours.size(); hour++) {
                Hour one = hours.get(hour);
                if (one.network != network || !one.isOnAt(place) || !isSeen(one.toldOn)) {
                    continue;
                }
                boolean soldToIt = isSoldTo(one, station);
                boolean firstKept = one.stations == 0 && kept == NONE;
                if ((soldToIt || firstKept)
                        && contracts[network].clearsBy(lineFor(station, one, place, false))) {
                    if (soldToIt) {
                        return hour;
                    }
                    kept = hour;
                }
            }
            return kept;
        }

        int slotsSent(int station, int hour) {
            Hour asked = hours.get(hour);
            int sum = 0;
            for (int i = 0; i < asked.slots; i++) {
                if (sentAt(station, asked.place + i) == hour) {
                    sum++;
                }
            }
            return sum;
        }

        int payFor(int station, int hour) {
            Hour asked = hours.get(hour);
            int sum = 0;
            for (int i = 0; i < asked.slots; i++) {
                int place = asked.place + i;
                if (sentAt(station, place) == hour) {
                    sum += contracts[asked.network].payBy(lineFor(station, asked, place, true));
                }
            }
            return sum;
        }
    }

    /** A CONTRACT that has been read: its LINES with their TESTS. Never changed once it is a NETWORK's. */
    private static final class Contract {
        static final int SOLD = 0;
        static final int SUMMER = 1;
        static final int SLOT = 2;
        static final int POWER = 3;
        static final int NOTICE = 4;
        static final int ZONE = 5;
        static final int SORT = 6;
        static final int LONG = 7;
        static final int WEEKDAY = 8;
        static final int SUBJECTS = 9;

        /** A sign is what comparing must answer. */
        static final int BELOW = -1;
        static final int EQUAL = 0;
        static final int ABOVE = 1;

        /** What a LINE does; a number from 0 on is a PAY. */
        static final int CLEAR = -1;
        static final int REFUSE = -2;

        /** A TEST is a row of four numbers: whether 'not' stands, subject, sign, number. */
        private static final int TEST_ROW = 4;

        int lines;
        private final int[] deeds = new int[MOST_LINES];
        private final int[] testCounts = new int[MOST_LINES];
        private final int[] tests = new int[MOST_LINES * MOST_TESTS * TEST_ROW];

        /** A TEST of the LINE that is being read; true if there is room for it. */
        boolean addTest(boolean not, int subject, int sign, int number) {
            if (lines >= MOST_LINES || testCounts[lines] >= MOST_TESTS) {
                return false;
            }
            int at = rowOf(lines, testCounts[lines]);
            tests[at] = not ? 1 : 0;
            tests[at + 1] = subject;
            tests[at + 2] = sign;
            tests[at + 3] = number;
            testCounts[lines]++;
            return true;
        }

        /** Ends the LINE that is being read; one beyond the limit is left out. */
        void addLine(int deed) {
            if (lines < MOST_LINES) {
                deeds[lines] = deed;
                lines++;
            }
        }

        int firstLine(int[] facts, boolean pay) {
            for (int line = 0; line < lines; line++) {
                boolean pays = deeds[line] >= 0;
                if (pays == pay && holds(line, facts)) {
                    return line;
                }
            }
            return NONE;
        }

        boolean clearsBy(int line) {
            return within(line, 0, lines - 1) && deeds[line] == CLEAR;
        }

        int payBy(int line) {
            return within(line, 0, lines - 1) ? Math.max(0, deeds[line]) : 0;
        }

        private boolean holds(int line, int[] facts) {
            for (int test = 0; test < testCounts[line]; test++) {
                int at = rowOf(line, test);
                boolean not = tests[at] == 1;
                boolean agrees = Integer.compare(facts[tests[at + 1]], tests[at + 3]) == tests[at + 2];
                if (agrees == not) {
                    return false;
                }
            }
            return true;
        }

        private static int rowOf(int line, int test) {
            return (line * MOST_TESTS + test) * TEST_ROW;
        }
    }

    /** Reads a tape as the text of a CONTRACT: splits it into tokens, then goes through them. */
    private static final class Reader {
        private static final int AT_END = 0;
        private static final int STRANGE = 1;
        private static final int COLON = 2;
        private static final int SEMICOLON = 3;
        /** The three signs are their numbers in a CONTRACT around this one. */
        private static final int SIGN = 5;
        private static final int WORD_IF = 8;
        private static final int WORD_AND = 9;
        private static final int WORD_NOT = 10;
        private static final int WORD_CLEAR = 11;
        private static final int WORD_REFUSE = 12;
        private static final int WORD_PAY = 13;
        /** The subjects are their numbers in a CONTRACT from this one on. */
        private static final int WORD_SOLD = 14;
        private static final int WORD_SUMMER = 15;
        private static final int WORD_WEEK = 22;
        /** NUMBERS are themselves from this one on. */
        private static final int NUMBER = 100;

        /** The words from WORD_IF on, a blank behind each. */
        private static final String WORDS =
                "if and not clear refuse pay sold summer slot power notice zone sort long week ";
        private static final int MOST_NUMBER = 9999;
        private static final int MOST_DIGITS = 4;

        /** Each token with the place of its first byte; the last one is AT_END. */
        private final int[] tokens = new int[MOST_TAPE + 1];
        private final int[] places = new int[MOST_TAPE + 1];
        private int last;
        /** The token that is looked at. */
        private int at;
        private int firstTooMany;
        Contract read = new Contract();
        int fault;
        int faultPlace;

        void split(byte[] tape, int tapeLength) {
            int length = Math.min(tapeLength, MOST_TAPE);
            last = 0;
            int from = skipBlanks(tape, 0, length);
            while (from < length && last < MOST_TAPE) {
                int to = tokenEnd(tape, from, length);
                tokens[last] = tokenOf(tape, from, to);
                places[last] = from;
                last++;
                from = skipBlanks(tape, to, length);
            }
            tokens[last] = AT_END;
            places[last] = length;
        }

        private static int skipBlanks(byte[] tape, int from, int length) {
            int to = from;
            while (to < length && (tape[to] == 10 || tape[to] == ' ')) {
                to++;
            }
            return to;
        }

        /** A token goes on as long as letters follow a letter, or digits a digit. */
        private static int tokenEnd(byte[] tape, int from, int length) {
            int to = from + 1;
            while (to < length && (isLetter(tape[from]) && isLetter(tape[to])
                    || isDigit(tape[from]) && isDigit(tape[to]))) {
                to++;
            }
            return to;
        }

        private static int tokenOf(byte[] tape, int from, int to) {
            if (isLetter(tape[from])) {
                return wordToken(tape, from, to);
            }
            if (isDigit(tape[from])) {
                return numberToken(tape, from, to);
            }
            switch (tape[from]) {
                case ':': return COLON;
                case ';': return SEMICOLON;
                case '<': return SIGN + Contract.BELOW;
                case '=': return SIGN + Contract.EQUAL;
                case '>': return SIGN + Contract.ABOVE;
                default: return STRANGE;
            }
        }

        private static int wordToken(byte[] tape, int from, int to) {
            int word = WORD_IF;
            int next = from;
            boolean same = true;
            for (int k = 0; k < WORDS.length(); k++) {
                char letter = WORDS.charAt(k);
                if (letter != ' ') {
                    same = same && next < to && tape[next] == letter;
                    next++;
                } else if (same && next == to) {
                    return word;
                } else {
                    word++;
                    next = from;
                    same = true;
                }
            }
            return STRANGE;
        }

        private static int numberToken(byte[] tape, int from, int to) {
            if (to - from > MOST_DIGITS) {
                return STRANGE;
            }
            int number = 0;
            for (int k = from; k < to; k++) {
                number = number * 10 + tape[k] - '0';
            }
            return NUMBER + number;
        }

        private static boolean isLetter(int sign) {
            return sign >= 'a' && sign <= 'z';
        }

        private static boolean isDigit(int sign) {
            return sign >= '0' && sign <= '9';
        }

        void readText() {
            read = new Contract();
            at = 0;
            fault = 0;
            faultPlace = NONE;
            firstTooMany = NONE;
            for (int line = 0; line <= last && fault == 0 && tokens[at] != AT_END; line++) {
                if (line >= MOST_LINES) {
                    oneTooMany(places[at]);
                }
                readLine();
            }
            if (fault == 0 && firstTooMany != NONE) {
                fault = FAULT_TOO_MANY;
                faultPlace = firstTooMany;
            }
        }

        private void readLine() {
            if (tokens[at] == WORD_IF) {
                readTests();
            }
            int deed = readDeed();
            take(SEMICOLON, SEMICOLON);
            if (fault == 0) {
                read.addLine(deed);
            }
        }

        private void readTests() {
            take(WORD_IF, WORD_IF);
            readTest();
            for (int test = 1; test <= last && fault == 0 && tokens[at] == WORD_AND; test++) {
                take(WORD_AND, WORD_AND);
                readTest();
            }
            take(COLON, COLON);
        }

        private void readTest() {
            int place = places[at];
            boolean not = tokens[at] == WORD_NOT;
            if (not) {
                take(WORD_NOT, WORD_NOT);
            }
            int subject = take(WORD_SOLD, WORD_WEEK) - WORD_SOLD;
            int sign = Contract.EQUAL;
            int number = 1;
            if (subject > WORD_SUMMER - WORD_SOLD) {
                sign = take(SIGN + Contract.BELOW, SIGN + Contract.ABOVE) - SIGN;
                number = take(NUMBER, NUMBER + MOST_NUMBER) - NUMBER;
            }
            if (fault == 0 && !read.addTest(not, subject, sign, number)) {
                oneTooMany(place);
            }
        }

        private int readDeed() {
            if (tokens[at] == WORD_PAY) {
                take(WORD_PAY, WORD_PAY);
                return take(NUMBER, NUMBER + MOST_NUMBER) - NUMBER;
            }
            return take(WORD_CLEAR, WORD_REFUSE) == WORD_CLEAR ? Contract.CLEAR : Contract.REFUSE;
        }

        /** The token looked at, and on to the next; without one of these it is a FAULT, and nothing more is taken. */
        private int take(int first, int lastOne) {
            if (fault != 0) {
                return STRANGE;
            }
            int token = tokens[at];
            if (!within(token, first, lastOne) || at >= last) {
                fault = FAULT_TEXT;
                faultPlace = places[at];
                return STRANGE;
            }
            at++;
            return token;
        }

        private void oneTooMany(int place) {
            if (firstTooMany == NONE) {
                firstTooMany = place;
            }
        }
    }

    /** The STRINGS of all HOURS of one SLOT. */
    private static final class Wiring {
        /** A wire weighs its MILES and, below them, its bit: the least sum has least MILES, then the least bits. */
        private static final int BITS = 1 << MOST_WIRES;

        /** By HOUR: the bits of its STRING, or NONE. */
        final int[] strings = new int[MOST_HOURS];
        private final int[] sending = new int[MOST_STATIONS];
        private final int[] taken = new int[MOST_WIRES];
        /** WIRES from the lightest on. */
        private final int[] order = new int[MOST_WIRES];
        /** By TOWN: bits of the TOWNS with which it hangs together so far. */
        private final int[] parts = new int[MOST_TOWNS];

        /** At a PLACE that there is not, nobody has a STRING. */
        void lay(Told told, int place) {
            for (int hour = 0; hour < MOST_HOURS; hour++) {
                strings[hour] = NONE;
            }
            if (!isPlace(place)) {
                return;
            }
            for (int wire = 0; wire < MOST_WIRES; wire++) {
                taken[wire] = 0;
            }
            orderWires(told);
            for (int station = 0; station < told.stations.size(); station++) {
                sending[station] = told.sentAt(station, place);
            }
            for (int hour = 0; hour < told.hours.size(); hour++) {
                Hour one = told.hours.get(hour);
                if (one.isOnAt(place) && told.isSeen(one.toldOn)) {
                    strings[hour] = leastString(told, townsOf(told, hour));
                    takeCircuits(strings[hour]);
                }
            }
        }

        /** The bits of the WIRES in which an HOUR has a PLUG. */
        int plugs(int hour) {
            return Math.max(0, strings[hour]);
        }

        int milesOf(Told told, int hour) {
            if (strings[hour] == NONE) {
                return NONE;
            }
            int sum = 0;
            for (int wire = 0; wire < told.wires.size(); wire++) {
                if ((strings[hour] >> wire & 1) == 1) {
                    sum += told.wires.get(wire).miles;
                }
            }
            return sum;
        }

        private void orderWires(Told told) {
            for (int wire = 0; wire < told.wires.size(); wire++) {
                int at = wire;
                while (at > 0 && told.wires.get(order[at - 1]).miles > told.wires.get(wire).miles) {
                    order[at] = order[at - 1];
                    at--;
                }
                order[at] = wire;
            }
        }

        private int townsOf(Told told, int hour) {
            int towns = 1 << told.hours.get(hour).town;
            for (int station = 0; station < told.stations.size(); station++) {
                if (sending[station] == hour) {
                    towns |= 1 << told.stations.get(station).town;
                }
            }
            return towns;
        }

        private void takeCircuits(int string) {
            for (int wire = 0; string != NONE && wire < MOST_WIRES; wire++) {
                taken[wire] += string >> wire & 1;
            }
        }

        /** The lightest tree has some set of TOWNS, and is the lightest on that set: so all sets are tried. */
        private int leastString(Told told, int needed) {
            int least = ENDLESS;
            for (int towns = needed; towns < 1 << told.towns && least > 0; towns++) {
                if ((towns & needed) == needed) {
                    least = Math.min(least, lightestTree(told, towns, least));
                }
            }
            return least == ENDLESS ? NONE : least % BITS;
        }

        /**
         * The weight of the lightest tree on just these TOWNS, by taking again and again the lightest WIRE that
         * joins two parts; ENDLESS if there is none below the limit.
         */
        private int lightestTree(Told told, int towns, int limit) {
            for (int town = 0; town < MOST_TOWNS; town++) {
                parts[town] = 1 << town;
            }
            int weight = 0;
            int grown = towns & -towns;
            for (int k = 0; k < told.wires.size() && grown != towns && weight < limit; k++) {
                int number = order[k];
                Wire wire = told.wires.get(number);
                int ends = 1 << wire.a | 1 << wire.b;
                if ((ends & towns) == ends && (parts[wire.a] & ends) != ends && taken[number] < wire.circuits) {
                    weight += wire.miles * BITS + (1 << number);
                    grown = joinParts(parts[wire.a] | parts[wire.b]);
                }
            }
            return grown == towns ? weight : ENDLESS;
        }

        private int joinParts(int joined) {
            for (int town = 0; town < MOST_TOWNS; town++) {
                if ((joined >> town & 1) == 1) {
                    parts[town] = joined;
                }
            }
            return joined;
        }
    }

    /** What is done to PLUGS from one SLOT to the next, and by which ORDER it is done soonest. */
    private static final class Shift {
        /** Things that never wait for a CIRCUIT are all alike: they stand together as on one wide WIRE. */
        private static final int WIDE = MOST_WIRES;

        int pulled;
        int put;
        /** By WIRE: how many are to be PULLED and PUT, how many have begun, and CIRCUITS free at first. */
        private final int[] pulls = new int[MOST_WIRES + 1];
        private final int[] puts = new int[MOST_WIRES + 1];
        private final int[] pullsBegun = new int[MOST_WIRES + 1];
        private final int[] putsBegun = new int[MOST_WIRES + 1];
        private final int[] spare = new int[MOST_WIRES + 1];
        /** By WIRE, MOST_THINGS each: when those PULLED are out, in the order in which they began. */
        private final int[] outs = new int[(MOST_WIRES + 1) * MOST_THINGS];
        /** By HAND: when it is free. */
        private final int[] free = new int[MOST_HANDS];
        private int hands;
        private int best;
        /** No ORDER can be sooner, so the search may rest there. */
        private int bound;

        void compare(Told told, Wiring ahead, Wiring behind) {
            pulled = 0;
            put = 0;
            for (int wire = 0; wire <= MOST_WIRES; wire++) {
                pulls[wire] = 0;
                puts[wire] = 0;
                spare[wire] = MOST_THINGS;
            }
            for (int wire = 0; wire < told.wires.size(); wire++) {
                compareWire(wire, told.wires.get(wire).circuits, ahead, behind);
                pulled += pulls[wire];
                put += puts[wire];
            }
        }

        private void compareWire(int wire, int circuits, Wiring ahead, Wiring behind) {
            spare[wire] = circuits;
            for (int hour = 0; hour < MOST_HOURS; hour++) {
                int was = ahead.plugs(hour) >> wire & 1;
                int is = behind.plugs(hour) >> wire & 1;
                spare[wire] -= was;
                if (was > is) {
                    pulls[wire]++;
                } else if (is > was) {
                    puts[wire]++;
                }
            }
        }

        int leastSeconds(int handsNow) {
            if (pulled + put > MOST_THINGS || handsNow < 1 || handsNow > MOST_HANDS) {
                return NONE;
            }
            hands = handsNow;
            for (int hand = 0; hand < MOST_HANDS; hand++) {
                free[hand] = 0;
            }
            widen();
            best = ENDLESS;
            bound = (PULL_SECONDS * pulled + PUT_SECONDS * put + hands - 1) / hands;
            begin(pulled + put, 0, 0);
            return best == ENDLESS ? NONE : best;
        }

        private void widen() {
            for (int wire = 0; wire <= MOST_WIRES; wire++) {
                pullsBegun[wire] = 0;
                putsBegun[wire] = 0;
                if (wire != WIDE && puts[wire] <= spare[wire]) {
                    pulls[WIDE] += pulls[wire];
                    puts[WIDE] += puts[wire];
                    pulls[wire] = 0;
                    puts[wire] = 0;
                }
            }
        }

        /** Tries every thing that may begin next; since: when the one before it began, done: when all so far end. */
        private void begin(int left, int since, int done) {
            if (left <= 0) {
                best = Math.min(best, done);
                return;
            }
            for (int wire = 0; wire <= MOST_WIRES && best > bound; wire++) {
                if (pullsBegun[wire] < pulls[wire]) {
                    beginPull(wire, left, since, done);
                }
                if (putsBegun[wire] < puts[wire]) {
                    beginPut(wire, left, since, done);
                }
            }
        }

        private void beginPull(int wire, int left, int since, int done) {
            int hand = soonestHand();
            int start = Math.max(since, free[hand]);
            int out = start + PULL_SECONDS;
            if (out >= best) {
                return;
            }
            int freeBefore = free[hand];
            free[hand] = out;
            outs[wire * MOST_THINGS + pullsBegun[wire]] = out;
            pullsBegun[wire]++;
            begin(left - 1, start, Math.max(done, out));
            pullsBegun[wire]--;
            free[hand] = freeBefore;
        }

        private void beginPut(int wire, int left, int since, int done) {
            int wait = circuitFree(wire);
            if (wait == NONE) {
                return;
            }
            int hand = soonestHand();
            int start = Math.max(wait, Math.max(since, free[hand]));
            int in = start + PUT_SECONDS;
            if (in >= best) {
                return;
            }
            int freeBefore = free[hand];
            free[hand] = in;
            putsBegun[wire]++;
            begin(left - 1, start, Math.max(done, in));
            putsBegun[wire]--;
            free[hand] = freeBefore;
        }

        /** When one more can be PUT on a WIRE; NONE if that waits for one that has not begun to be PULLED. */
        private int circuitFree(int wire) {
            int outsNeeded = putsBegun[wire] + 1 - spare[wire];
            if (outsNeeded <= 0) {
                return 0;
            }
            return outsNeeded <= pullsBegun[wire] ? outs[wire * MOST_THINGS + outsNeeded - 1] : NONE;
        }

        private int soonestHand() {
            int soonest = 0;
            for (int hand = 1; hand < hands; hand++) {
                if (free[hand] < free[soonest]) {
                    soonest = hand;
                }
            }
            return soonest;
        }
    }

    /** PIECES and what they are worth, and the PLAN of them. */
    private static final class Evening {
        int pieces;
        private final int[] sorts = new int[MOST_PIECES];
        final int[] worths = new int[MOST_PIECES * TURNS];
        /** What the best way is worth, NONE without one, and its TURNS. */
        int best;
        final int[] bestRow = new int[MOST_PIECES];
        private final int[] row = new int[MOST_PIECES];
        /** By PIECE: what it and all behind it are worth at most, each in its best TURN. */
        private final int[] most = new int[MOST_PIECES + 1];

        void takeAll(Evening from) {
            pieces = from.pieces;
            System.arraycopy(from.sorts, 0, sorts, 0, MOST_PIECES);
            System.arraycopy(from.worths, 0, worths, 0, MOST_PIECES * TURNS);
        }

        int addPiece(int sort) {
            if (pieces >= MOST_PIECES) {
                return NONE;
            }
            sorts[pieces] = sort;
            pieces++;
            return pieces - 1;
        }

        void findBest() {
            most[pieces] = 0;
            for (int piece = pieces - 1; piece >= 0; piece--) {
                int dearest = 0;
                for (int turn = 0; turn < TURNS; turn++) {
                    dearest = Math.max(dearest, worths[TURNS * piece + turn]);
                }
                most[piece] = most[piece + 1] + dearest;
            }
            best = NONE;
            giveTurns(0, 0);
        }

        /** Rows come from the least on, so a later one must be worth more. */
        private void giveTurns(int piece, int sum) {
            if (sum + most[piece] <= best) {
                return;
            }
            if (piece >= pieces) {
                best = sum;
                System.arraycopy(row, 0, bestRow, 0, MOST_PIECES);
                return;
            }
            for (int turn = 0; turn < TURNS; turn++) {
                if (fits(piece, turn)) {
                    row[piece] = turn;
                    giveTurns(piece + 1, sum + worths[TURNS * piece + turn]);
                }
            }
        }

        private boolean fits(int piece, int turn) {
            for (int other = 0; other < piece; other++) {
                int gap = Math.abs(row[other] - turn);
                if (gap == 0 || gap == 1 && sorts[other] == sorts[piece]) {
                    return false;
                }
            }
            return true;
        }
    }
}
