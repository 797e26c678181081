import java.util.ArrayList;
import java.util.Arrays;
import java.util.List;
import java.util.regex.Matcher;
import java.util.regex.Pattern;

/**
 * The document said again in the slowest and plainest way, to be held against HookUps: all sets of wires, all
 * orders of things second by second, all rows of turns, and texts by regular expressions over tokens.
 */
final class Oracle {
    private static final class Book {
        int towns;
        List<int[]> wires = new ArrayList<>();
        List<int[]> stations = new ArrayList<>();
        int[] own = new int[8];
        int[][] summer = {{1, 0}, {1, 0}, {1, 0}, {1, 0}};
        List<int[]> memberships = new ArrayList<>();
        List<int[]> hours = new ArrayList<>();
        List<int[]> breaks = new ArrayList<>();
        List<int[]> calls = new ArrayList<>();
        List<int[]> pieces = new ArrayList<>();
        int now;
        int view = -1;
        int hands = 1;
        String tape = "";
        int fault;
        int faultPlace = -1;
        String[][] contracts = {{}, {}, {}};

        Book copy() {
            Book b = new Book();
            b.towns = towns;
            b.wires = rows(wires);
            b.stations = rows(stations);
            b.own = own.clone();
            for (int z = 0; z < 4; z++) {
                b.summer[z] = summer[z].clone();
            }
            b.memberships = rows(memberships);
            b.hours = rows(hours);
            b.breaks = rows(breaks);
            b.calls = rows(calls);
            b.pieces = rows(pieces);
            b.now = now;
            b.view = view;
            b.hands = hands;
            b.tape = tape;
            b.fault = fault;
            b.faultPlace = faultPlace;
            b.contracts = contracts.clone();
            return b;
        }

        private static List<int[]> rows(List<int[]> from) {
            List<int[]> to = new ArrayList<>();
            for (int[] row : from) {
                to.add(row.clone());
            }
            return to;
        }
    }

    private Book b = new Book();
    private final Book[] images = new Book[3];

    private static boolean in(int x, int least, int most) {
        return x >= least && x <= most;
    }

    private boolean isTown(int t) {
        return in(t, 0, b.towns - 1);
    }

    private boolean isStation(int s) {
        return in(s, 0, b.stations.size() - 1);
    }

    int town() {
        return b.towns == 8 ? -1 : b.towns++;
    }

    int wire(int a, int c, int miles, int circuits) {
        if (b.wires.size() == 12 || !isTown(a) || !isTown(c) || a == c || !in(miles, 1, 999) || !in(circuits, 1, 3)) {
            return -1;
        }
        b.wires.add(new int[] {a, c, miles, circuits});
        return b.wires.size() - 1;
    }

    int station(int town, int zone, int power) {
        if (b.stations.size() == 8 || !isTown(town) || !in(zone, 0, 3) || !in(power, 1, 99)) {
            return -1;
        }
        b.stations.add(new int[] {town, zone, power});
        return b.stations.size() - 1;
    }

    boolean summer(int zone, int from, int to) {
        if (!in(zone, 0, 3) || !in(from, 0, 199) || !in(to, 0, 199)) {
            return false;
        }
        b.summer[zone] = new int[] {from, to};
        return true;
    }

    private boolean isSummer(int zone, int day) {
        return in(day, b.summer[zone][0], b.summer[zone][1]);
    }

    int local(int zone, int day, int slot) {
        if (!in(zone, 0, 3) || !in(day, 0, 199) || !in(slot, 0, 47)) {
            return -1000;
        }
        return 48 * day + slot - 2 * zone + (isSummer(zone, day) ? 2 : 0);
    }

    int twice(int zone, int day, int slot) {
        if (!in(zone, 0, 3) || !in(day, -1, 200) || !in(slot, 0, 47)) {
            return -1;
        }
        int n = 0;
        for (int place = 0; place < 9600; place++) {
            if (local(zone, place / 48, place % 48) == 48 * day + slot) {
                n++;
            }
        }
        return n;
    }

    boolean day(int day) {
        if (day < b.now || day > 199) {
            return false;
        }
        b.now = day;
        return true;
    }

    boolean view(int day) {
        if (day != -1 && (day < 0 || day > b.now)) {
            return false;
        }
        b.view = day;
        return true;
    }

    private boolean seen(int told) {
        return told <= (b.view == -1 ? b.now : b.view);
    }

    boolean join(int station, int network, int from) {
        if (!isStation(station) || !in(network, -1, 2) || !in(from, 0, 199) || b.memberships.size() == 40) {
            return false;
        }
        b.memberships.add(new int[] {station, network, from, b.now});
        return true;
    }

    int member(int station, int day) {
        if (!isStation(station) || !in(day, 0, 199)) {
            return -1;
        }
        for (int from = day; from >= 0; from--) {
            for (int k = b.memberships.size() - 1; k >= 0; k--) {
                int[] m = b.memberships.get(k);
                if (m[0] == station && m[2] == from && seen(m[3])) {
                    return m[1];
                }
            }
        }
        return -1;
    }

    int hour(int network, int day, int slot, int slots, int town, int sort, int stations) {
        if (b.hours.size() == 24 || !in(network, 0, 2) || !in(day, 0, 199) || !in(slot, 0, 47) || !in(slots, 1, 4)
                || !in(slot + slots, 1, 48) || !isTown(town) || !in(sort, 0, 7) || stations < 0
                || stations >>> b.stations.size() != 0) {
            return -1;
        }
        b.hours.add(new int[] {network, day, slot, slots, town, sort, stations, b.now});
        return b.hours.size() - 1;
    }

    int cut(int station, int day, int from, int to, int rank) {
        if (b.breaks.size() == 24 || station != -1 && !isStation(station) || !in(day, 0, 199) || !in(from, 0, 47)
                || !in(to, 0, 47) || from > to || !in(rank, 0, 9)) {
            return -1;
        }
        b.breaks.add(new int[] {station, day, from, to, rank, b.now});
        return b.breaks.size() - 1;
    }

    boolean own(int station, int bits) {
        if (!isStation(station) || !in(bits, 0, 255)) {
            return false;
        }
        b.own[station] = bits;
        return true;
    }

    int about(int hour, int what) {
        return in(hour, 0, b.hours.size() - 1) && in(what, 0, 7) ? b.hours.get(hour)[what] : -2;
    }

    int feed(int a, int c, int d, int e, int f) {
        if (b.tape.length() > 480) {
            return -1;
        }
        StringBuilder all = new StringBuilder(b.tape);
        for (int number : new int[] {a, c, d, e, f}) {
            for (int k = 3; k >= 0; k--) {
                all.append((char) (number >>> 8 * k & 255));
            }
        }
        b.tape = all.toString();
        return b.tape.length();
    }

    int end(int n) {
        if (n < 0 || n > b.tape.length()) {
            return -1;
        }
        b.tape = b.tape.substring(0, n);
        return n;
    }

    /** Each token as one sign, so that a pattern over tokens tells what goes on. */
    private static final String[] WORDS = {"if", "and", "not", "clear", "refuse", "pay", "sold", "summer", "slot",
        "power", "notice", "zone", "sort", "long", "week"};
    private static final String SIGNS = "IANCRPSUabcdefg";
    private static final Pattern TOKEN = Pattern.compile("[a-z]+|[0-9]+|[^a-z0-9 \n]");
    private static final String TEST = "N?(?:[SU]|[a-g][<>=]#)";
    private static final Pattern TEXT =
        Pattern.compile("(?:(?:I" + TEST + "(?:A" + TEST + ")*:)?(?:C|R|P#);)*");

    private static char sign(String token) {
        int word = Arrays.asList(WORDS).indexOf(token);
        if (word >= 0) {
            return SIGNS.charAt(word);
        }
        if (token.matches("[0-9]{1,4}")) {
            return '#';
        }
        return token.matches("[:;<>=]") ? token.charAt(0) : '?';
    }

    private static boolean goesOn(String signs) {
        Matcher m = TEXT.matcher(signs);
        return m.matches() || m.hitEnd();
    }

    int contract(int network) {
        b.fault = 0;
        b.faultPlace = -1;
        String tape = b.tape;
        b.tape = "";
        if (!in(network, 0, 2)) {
            return -2;
        }
        List<String> tokens = new ArrayList<>();
        List<Integer> places = new ArrayList<>();
        Matcher m = TOKEN.matcher(tape);
        while (m.find()) {
            tokens.add(m.group());
            places.add(m.start());
        }
        places.add(tape.length());
        StringBuilder signs = new StringBuilder();
        for (int k = 0; k < tokens.size(); k++) {
            signs.append(sign(tokens.get(k)));
            if (!goesOn(signs.toString())) {
                return fail(1, places.get(k));
            }
        }
        if (!TEXT.matcher(signs).matches()) {
            return fail(1, places.get(tokens.size()));
        }
        int lines = 0;
        int tests = 0;
        for (int k = 0; k < tokens.size(); k++) {
            char before = k == 0 ? ';' : signs.charAt(k - 1);
            if (before == ';') {
                lines++;
                tests = 0;
                if (lines > 16) {
                    return fail(3, places.get(k));
                }
            }
            if (before == 'I' || before == 'A') {
                tests++;
                if (tests > 4) {
                    return fail(3, places.get(k));
                }
            }
        }
        String joined = String.join(" ", tokens);
        b.contracts[network] = joined.isEmpty() ? new String[0] : joined.split(";");
        return lines;
    }

    private int fail(int fault, int place) {
        b.fault = fault;
        b.faultPlace = place;
        return -1;
    }

    int fault(int what) {
        return what == 0 ? b.fault : what == 1 ? b.faultPlace : -1;
    }

    private boolean seenSlot(int hour, int i) {
        return in(hour, 0, b.hours.size() - 1) && seen(b.hours.get(hour)[7]) && in(i, 0, b.hours.get(hour)[3] - 1);
    }

    private boolean holds(String test, int station, int hour, int i) {
        String[] words = test.trim().split(" ");
        int at = words[0].equals("not") ? 1 : 0;
        int[] s = b.stations.get(station);
        int[] h = b.hours.get(hour);
        int local = local(s[1], h[1], h[2] + i);
        boolean yes;
        if (words[at].equals("sold")) {
            yes = h[6] != 0;
        } else if (words[at].equals("summer")) {
            yes = isSummer(s[1], h[1]);
        } else {
            int value;
            switch (words[at]) {
                case "slot": value = (local + 48) % 48; break;
                case "power": value = s[2]; break;
                case "notice": value = h[1] > h[7] ? h[1] - h[7] : 0; break;
                case "zone": value = s[1]; break;
                case "sort": value = h[5]; break;
                case "long": value = h[3]; break;
                default: value = ((local + 48) / 48 - 1 + 7) % 7; break;
            }
            int number = Integer.parseInt(words[at + 2]);
            String sign = words[at + 1];
            yes = sign.equals("<") ? value < number : sign.equals(">") ? value > number : value == number;
        }
        return yes != (at == 1);
    }

    private String deed(String line) {
        return line.substring(line.indexOf(':') + 1).trim();
    }

    int why(int station, int hour, int i, boolean pay) {
        if (!isStation(station) || !seenSlot(hour, i)) {
            return -1;
        }
        String[] lines = b.contracts[b.hours.get(hour)[0]];
        for (int k = 0; k < lines.length; k++) {
            if (deed(lines[k]).startsWith("pay") != pay) {
                continue;
            }
            boolean all = true;
            if (lines[k].indexOf(':') >= 0) {
                String tests = lines[k].substring(0, lines[k].indexOf(':')).trim().substring(3);
                for (String test : tests.split(" and ")) {
                    all &= holds(test, station, hour, i);
                }
            }
            if (all) {
                return k;
            }
        }
        return -1;
    }

    boolean clears(int station, int hour, int i) {
        int line = why(station, hour, i, false);
        return line >= 0 && deed(b.contracts[b.hours.get(hour)[0]][line]).equals("clear");
    }

    int sends(int station, int day, int slot) {
        if (!isStation(station) || !in(day, 0, 199) || !in(slot, 0, 47)) {
            return -1;
        }
        for (int rank = 9; rank >= 0; rank--) {
            for (int k = b.breaks.size() - 1; k >= 0; k--) {
                int[] c = b.breaks.get(k);
                if (c[4] == rank && seen(c[5]) && (c[0] == -1 || c[0] == station) && c[1] == day
                        && in(slot, c[2], c[3])) {
                    return 100 + k;
                }
            }
        }
        for (int sold = 1; sold >= 0; sold--) {
            for (int k = 0; k < b.hours.size(); k++) {
                int[] h = b.hours.get(k);
                boolean fits = sold == 1 ? (h[6] & 1 << station) != 0 : h[6] == 0;
                if (fits && h[1] == day && in(slot, h[2], h[2] + h[3] - 1) && member(station, day) == h[0]
                        && clears(station, k, slot - h[2])) {
                    return k;
                }
            }
        }
        int localSlot = (local(b.stations.get(station)[1], day, slot) + 48) % 48;
        return (b.own[station] & 1 << localSlot / 6) != 0 ? 200 : 300;
    }

    int sent(int hour, int i) {
        if (!seenSlot(hour, i)) {
            return -1;
        }
        int[] h = b.hours.get(hour);
        int bits = 0;
        for (int s = 0; s < b.stations.size(); s++) {
            if (sends(s, h[1], h[2] + i) == hour) {
                bits += 1 << s;
            }
        }
        return bits;
    }

    private int milesOf(int set) {
        int sum = 0;
        for (int w = 0; w < b.wires.size(); w++) {
            sum += (set >> w & 1) * b.wires.get(w)[2];
        }
        return sum;
    }

    private boolean hangs(int set, int from, int towns) {
        int reached = 1 << from;
        for (int round = 0; round < 8; round++) {
            for (int w = 0; w < b.wires.size(); w++) {
                int ends = 1 << b.wires.get(w)[0] | 1 << b.wires.get(w)[1];
                if ((set >> w & 1) == 1 && (reached & ends) != 0) {
                    reached |= ends;
                }
            }
        }
        return (reached & towns) == towns;
    }

    /** By HOUR its STRING in that SLOT; -1 none, -2 if it has not that SLOT. */
    private int[] strings(int place) {
        int[] all = new int[b.hours.size()];
        Arrays.fill(all, -2);
        int[] taken = new int[12];
        for (int k = 0; k < all.length && place >= 0; k++) {
            int[] h = b.hours.get(k);
            int i = place - 48 * h[1] - h[2];
            if (!seenSlot(k, i)) {
                continue;
            }
            int towns = 0;
            int bits = sent(k, i);
            for (int s = 0; s < b.stations.size(); s++) {
                towns |= (bits >> s & 1) << b.stations.get(s)[0];
            }
            all[k] = least(h[4], towns, taken);
            for (int w = 0; w < 12 && all[k] > 0; w++) {
                taken[w] += all[k] >> w & 1;
            }
        }
        return all;
    }

    private int least(int from, int towns, int[] taken) {
        int free = 0;
        for (int w = 0; w < b.wires.size(); w++) {
            free |= (taken[w] < b.wires.get(w)[3] ? 1 : 0) << w;
        }
        int best = -1;
        for (int set = 0; set < 1 << b.wires.size(); set++) {
            if ((set & ~free) == 0 && (best == -1 || milesOf(set) < milesOf(best)) && hangs(set, from, towns)) {
                best = set;
            }
        }
        return best;
    }

    int string(int hour, int i) {
        return seenSlot(hour, i) ? strings(48 * b.hours.get(hour)[1] + b.hours.get(hour)[2] + i)[hour] : -1;
    }

    int miles(int hour, int i) {
        int set = string(hour, i);
        return set == -1 ? -1 : milesOf(set);
    }

    boolean hands(int hands) {
        if (!in(hands, 1, 3)) {
            return false;
        }
        b.hands = hands;
        return true;
    }

    int change(int day, int slot, int what) {
        if (!in(day, 0, 199) || !in(slot, 0, 47) || !in(what, 0, 2)) {
            return -1;
        }
        int[] was = strings(48 * day + slot - 1);
        int[] is = strings(48 * day + slot);
        // Things: WIRE, and 0 to be PULLED or 1 to be PUT. PLUGS in at first, by WIRE.
        List<int[]> things = new ArrayList<>();
        int[] count = new int[2];
        int[] plugs = new int[12];
        for (int k = 0; k < was.length; k++) {
            for (int w = 0; w < 12; w++) {
                int a = was[k] < 0 ? 0 : was[k] >> w & 1;
                int c = is[k] < 0 ? 0 : is[k] >> w & 1;
                plugs[w] += a;
                if (a != c) {
                    things.add(new int[] {w, c});
                    count[c]++;
                }
            }
        }
        if (what < 2) {
            return count[what];
        }
        if (things.size() > 7) {
            return -1;
        }
        leastSeconds = -1;
        orders(things, new ArrayList<>(), plugs);
        return leastSeconds;
    }

    private int leastSeconds;

    private void orders(List<int[]> left, List<int[]> order, int[] plugs) {
        if (left.isEmpty()) {
            int seconds = seconds(order, plugs);
            if (seconds >= 0 && (leastSeconds == -1 || seconds < leastSeconds)) {
                leastSeconds = seconds;
            }
        }
        for (int k = 0; k < left.size(); k++) {
            List<int[]> rest = new ArrayList<>(left);
            order.add(rest.remove(k));
            orders(rest, order, plugs);
            order.remove(order.size() - 1);
        }
    }

    /** Second by second: how long an ORDER takes; -1 if one of it can never begin. */
    private int seconds(List<int[]> order, int[] plugsAtFirst) {
        int[] plugs = plugsAtFirst.clone();
        int[] ends = new int[order.size()];
        int begun = 0;
        for (int t = 0; t < 100; t++) {
            int busy = 0;
            for (int k = 0; k < begun; k++) {
                if (ends[k] == t && order.get(k)[1] == 0) {
                    plugs[order.get(k)[0]]--;
                }
                busy += ends[k] > t ? 1 : 0;
            }
            while (begun < order.size() && busy < b.hands) {
                int w = order.get(begun)[0];
                boolean put = order.get(begun)[1] == 1;
                if (put && plugs[w] >= b.wires.get(w)[3]) {
                    break;
                }
                plugs[w] += put ? 1 : 0;
                ends[begun] = t + (put ? 3 : 2);
                begun++;
                busy++;
            }
            if (begun == order.size() && busy == 0) {
                return t;
            }
        }
        return -1;
    }

    int paid(int station, int a, int c) {
        if (!isStation(station) || !in(a, 0, 199) || !in(c, 0, 199) || a > c) {
            return -1;
        }
        int sum = 0;
        for (int day : daysOfHours(a, c)) {
            for (int slot = 0; slot < 48; slot++) {
                int hour = sends(station, day, slot);
                if (hour < 100 && b.hours.get(hour)[6] != 0) {
                    int line = why(station, hour, slot - b.hours.get(hour)[2], true);
                    if (line >= 0) {
                        sum += Integer.parseInt(deed(b.contracts[b.hours.get(hour)[0]][line]).substring(4));
                    }
                }
            }
        }
        return sum;
    }

    private List<Integer> daysOfHours(int a, int c) {
        List<Integer> days = new ArrayList<>();
        for (int[] h : b.hours) {
            if (in(h[1], a, c) && !days.contains(h[1])) {
                days.add(h[1]);
            }
        }
        return days;
    }

    int owed(int station, int a, int c) {
        if (!isStation(station) || !in(a, 0, 199) || !in(c, 0, 199) || a > c) {
            return -1;
        }
        int sum = 0;
        for (int k = 0; k < b.hours.size(); k++) {
            int[] h = b.hours.get(k);
            for (int i = 0; i < h[3]; i++) {
                if (seen(h[7]) && in(h[1], a, c) && (h[6] >> station & 1) == 1
                        && sends(station, h[1], h[2] + i) != k) {
                    sum++;
                }
            }
        }
        return sum;
    }

    int lost(int station, int k) {
        List<Integer> all = new ArrayList<>();
        for (int n = 0; n < b.hours.size() && isStation(station); n++) {
            int[] h = b.hours.get(n);
            if (seen(h[7]) && (h[6] >> station & 1) == 1 && member(station, h[1]) != h[0]) {
                all.add(n);
            }
        }
        return in(k, 0, all.size() - 1) ? all.get(k) : -1;
    }

    int calls(int station, int called, int heard) {
        if (b.calls.size() == 40 || !isStation(station) || !in(called, 1, 999) || !in(heard, 0, called)) {
            return -1;
        }
        b.calls.add(new int[] {station, called, heard, 1000 * heard / called});
        return b.calls.size() - 1;
    }

    int call(int k, int what) {
        return in(k, 0, b.calls.size() - 1) && in(what, 0, 3) ? b.calls.get(k)[what] : -1;
    }

    boolean apart(int a, int c) {
        if (!in(a, 0, b.calls.size() - 1) || !in(c, 0, b.calls.size() - 1)) {
            return false;
        }
        java.math.BigInteger n = java.math.BigInteger.valueOf(b.calls.get(a)[1]);
        java.math.BigInteger m = java.math.BigInteger.valueOf(b.calls.get(c)[1]);
        java.math.BigInteger k = java.math.BigInteger.valueOf(b.calls.get(a)[2]);
        java.math.BigInteger l = java.math.BigInteger.valueOf(b.calls.get(c)[2]);
        java.math.BigInteger left = k.multiply(m).subtract(l.multiply(n)).pow(2).multiply(n.add(m));
        java.math.BigInteger right = k.add(l).multiply(n.add(m).subtract(k).subtract(l)).multiply(n).multiply(m)
            .multiply(java.math.BigInteger.valueOf(4));
        return left.compareTo(right) > 0;
    }

    int piece(int sort) {
        if (b.pieces.size() == 6 || !in(sort, 0, 7)) {
            return -1;
        }
        b.pieces.add(new int[] {0, 0, 0, 0, 0, 0, sort});
        return b.pieces.size() - 1;
    }

    boolean worth(int piece, int turn, int worth) {
        if (!in(piece, 0, b.pieces.size() - 1) || !in(turn, 0, 5) || !in(worth, 0, 9999)) {
            return false;
        }
        b.pieces.get(piece)[turn] = worth;
        return true;
    }

    int plan(int what) {
        int n = b.pieces.size();
        if (!in(what, 0, n)) {
            return -1;
        }
        int rows = 1;
        for (int k = 0; k < n; k++) {
            rows *= 6;
        }
        int best = -1;
        int[] bestRow = null;
        for (int code = 0; code < rows; code++) {
            int[] row = new int[n];
            int rest = code;
            for (int k = n - 1; k >= 0; k--) {
                row[k] = rest % 6;
                rest /= 6;
            }
            int worth = worthOf(row);
            if (worth > best) {
                best = worth;
                bestRow = row;
            }
        }
        return best == -1 ? -1 : what == 0 ? best : bestRow[what - 1];
    }

    private int worthOf(int[] row) {
        int sum = 0;
        for (int k = 0; k < row.length; k++) {
            sum += b.pieces.get(k)[row[k]];
            for (int l = 0; l < k; l++) {
                boolean next = Math.abs(row[k] - row[l]) == 1 && b.pieces.get(k)[6] == b.pieces.get(l)[6];
                if (row[k] == row[l] || next) {
                    return -1;
                }
            }
        }
        return sum;
    }

    int count(int what) {
        int[] all = {b.towns, b.wires.size(), b.stations.size(), b.memberships.size(), b.hours.size(),
            b.breaks.size(), b.calls.size(), b.pieces.size(), b.now, b.view, b.contracts[0].length,
            b.contracts[1].length, b.contracts[2].length, b.hands};
        return in(what, 0, 13) ? all[what] : -2;
    }

    boolean image(int k) {
        if (!in(k, 0, 2)) {
            return false;
        }
        images[k] = b.copy();
        return true;
    }

    boolean again(int k) {
        if (!in(k, 0, 2) || images[k] == null) {
            return false;
        }
        b = images[k].copy();
        return true;
    }
}
