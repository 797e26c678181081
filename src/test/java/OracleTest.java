import java.util.Random;

/** Random runs of up to 512 calls, the same each time, on HookUps and on the Oracle: each answer of both alike. */
public final class OracleTest {
    private static final int CALLS = 512;
    private static final int[] ODD = {-2, -1, 200, 1000, Integer.MIN_VALUE, Integer.MAX_VALUE, 256, 48};

    private final Random random;
    private final HookUps x = new HookUps();
    private final Oracle o = new Oracle();
    private final int run;
    /** Runs differ: how many days and slots are used, how often a number is out of its range. */
    private final int days;
    private final int firstSlot;
    private final int slots;
    private final int oddness;
    /** In a busy run most STATIONS SEND HOURS over many WIRES. */
    private final boolean busy;
    private int made = 0;

    private OracleTest(int run) {
        this.run = run;
        random = new Random(run);
        days = 1 + random.nextInt(4);
        slots = 2 + random.nextInt(5);
        firstSlot = random.nextInt(3) == 0 ? 0 : random.nextInt(48 - slots);
        oddness = random.nextInt(4) == 0 ? 10 : 200;
        busy = run % 2 == 0;
    }

    public static void main(String[] args) {
        int runs = args.length > 0 ? Integer.parseInt(args[0]) : 400;
        int from = args.length > 1 ? Integer.parseInt(args[1]) : 0;
        for (int run = from; run < from + runs; run++) {
            new OracleTest(run).go();
        }
        Due.finish();
    }

    private void due(String call, long got, long want) {
        made++;
        Due.due("run " + run + ", call " + made + ": " + call, got, want);
    }

    private void due(String call, boolean got, boolean want) {
        due(call, got ? 1 : 0, want ? 1 : 0);
    }

    private int upTo(int n) {
        return random.nextInt(oddness) == 0 ? ODD[random.nextInt(ODD.length)] : random.nextInt(Math.max(1, n));
    }

    private int someDay() {
        return random.nextInt(30) == 0 ? upTo(201) : upTo(days);
    }

    private int someSlot() {
        return random.nextInt(30) == 0 ? upTo(49) : firstSlot + upTo(slots);
    }

    private int someStation() {
        return upTo(o.count(2) + (random.nextInt(20) == 0 ? 1 : 0));
    }

    private int someHour() {
        return upTo(o.count(4) + (random.nextInt(20) == 0 ? 1 : 0));
    }

    private void go() {
        int towns = 2 + random.nextInt(7);
        for (int k = 0; k < towns; k++) {
            due("town", x.town(), o.town());
        }
        for (int k = random.nextInt(6) + (busy ? 7 : 2); k > 0; k--) {
            wire();
        }
        for (int k = random.nextInt(8) + (busy ? 4 : 1); k > 0; k--) {
            station();
        }
        for (int k = 0; k < 3; k++) {
            contract(k, busy ? "if sort=7:refuse;clear;if slot>20:pay 7;pay 3;" : text());
        }
        for (int k = 0; k < 8; k++) {
            if (busy && random.nextInt(4) != 0) {
                int network = random.nextInt(2);
                due("join", x.join(k, network, 0), o.join(k, network, 0));
            } else {
                join();
            }
        }
        for (int k = busy ? 12 : 3; k > 0; k--) {
            hour();
        }
        while (made < CALLS - 30) {
            if (random.nextInt(3) == 0) {
                tell();
            } else {
                ask();
            }
        }
    }

    private void wire() {
        int a = upTo(o.count(0));
        int b = upTo(o.count(0));
        int miles = random.nextBoolean() ? 1 + upTo(4) : upTo(1001);
        int circuits = random.nextInt(15) == 0 ? upTo(5) : 1 + random.nextInt(3) * random.nextInt(2);
        due("wire " + a + " " + b, x.wire(a, b, miles, circuits), o.wire(a, b, miles, circuits));
    }

    private void station() {
        int town = upTo(o.count(0));
        int zone = upTo(4);
        int power = upTo(101);
        due("station", x.station(town, zone, power), o.station(town, zone, power));
    }

    private void join() {
        int station = someStation();
        int network = random.nextInt(8) == 0 ? -1 : random.nextInt(10) == 0 ? upTo(3) : upTo(2);
        int from = someDay();
        due("join", x.join(station, network, from), o.join(station, network, from));
    }

    private void hour() {
        int network = random.nextInt(10) == 0 ? upTo(3) : upTo(2);
        int day = someDay();
        int slot = someSlot();
        int long_ = random.nextInt(20) == 0 ? upTo(6) : 1 + upTo(4);
        int town = upTo(o.count(0));
        int sort = upTo(8);
        int stations = random.nextInt(3) == 0 ? 0 : upTo(1 << o.count(2));
        due("hour", x.hour(network, day, slot, long_, town, sort, stations),
            o.hour(network, day, slot, long_, town, sort, stations));
    }

    private String test() {
        String not = random.nextInt(3) == 0 ? "not " : "";
        String[] flags = {"sold", "summer"};
        String[] values = {"slot", "power", "notice", "zone", "sort", "long", "week"};
        int[] tops = {48, 100, 5, 4, 8, 5, 7};
        if (random.nextInt(3) == 0) {
            return not + flags[random.nextInt(2)];
        }
        int k = random.nextInt(7);
        String sign = random.nextInt(3) == 0 ? "=" : random.nextBoolean() ? "<" : " > ";
        return not + values[k] + sign + random.nextInt(tops[k]);
    }

    private String line() {
        StringBuilder line = new StringBuilder();
        if (random.nextInt(3) != 0) {
            line.append("if ").append(test());
            for (int k = random.nextInt(12) == 0 ? random.nextInt(6) : random.nextInt(2); k > 0; k--) {
                line.append(random.nextBoolean() ? " and " : "\nand ").append(test());
            }
            line.append(":");
        }
        int deed = random.nextInt(6);
        line.append(deed < 3 ? "clear" : deed < 4 ? "refuse" : "pay " + random.nextInt(random.nextBoolean() ? 10 : 9999));
        return line.append(random.nextInt(5) == 0 ? " ;\n " : ";").toString();
    }

    private String text() {
        StringBuilder text = new StringBuilder();
        int lines = random.nextInt(10) == 0 ? 14 + random.nextInt(5) : 1 + random.nextInt(5);
        for (int k = 0; k < lines && text.length() < 440; k++) {
            text.append(line());
        }
        if (random.nextInt(3) == 0) {
            text.append("clear;");
        }
        String noise = "abc<>=:;  \n019iftday!~" + (char) 0 + (char) 233 + "Z";
        for (int k = random.nextInt(3) == 0 ? 1 + random.nextInt(2) : 0; k > 0; k--) {
            int at = random.nextInt(text.length());
            switch (random.nextInt(4)) {
                case 0: text.deleteCharAt(at); break;
                case 1: text.setCharAt(at, noise.charAt(random.nextInt(noise.length()))); break;
                case 2: text.insert(at, noise.charAt(random.nextInt(noise.length()))); break;
                default: text.setLength(at + 1); break;
            }
        }
        return text.length() > 500 ? text.substring(0, 500) : text.toString();
    }

    private void contract(int network, String text) {
        due("end", x.end(0), o.end(0));
        for (int at = 0; at < text.length(); at += 20) {
            int[] f = new int[5];
            for (int k = 0; k < 20; k++) {
                f[k / 4] = f[k / 4] << 8 | (at + k < text.length() ? text.charAt(at + k) : random.nextInt(256));
            }
            due("feed", x.feed(f[0], f[1], f[2], f[3], f[4]), o.feed(f[0], f[1], f[2], f[3], f[4]));
        }
        due("end", x.end(text.length()), o.end(text.length()));
        due("contract '" + text + "'", x.contract(network), o.contract(network));
        due("fault(0) '" + text + "'", x.fault(0), o.fault(0));
        due("fault(1) '" + text + "'", x.fault(1), o.fault(1));
        due("the tape behind it", x.end(1), o.end(1));
    }

    private void tell() {
        switch (random.nextInt(22)) {
            case 0: due("town", x.town(), o.town()); break;
            case 1: wire(); break;
            case 2: station(); break;
            case 3: {
                int zone = upTo(4);
                int from = someDay();
                int to = someDay();
                due("summer", x.summer(zone, from, to), o.summer(zone, from, to));
                break;
            }
            case 4: {
                int day = random.nextInt(4) != 0 ? o.count(8) + random.nextInt(2) : someDay();
                if (day < 8 || random.nextInt(20) == 0) {
                    due("day " + day, x.day(day), o.day(day));
                }
                break;
            }
            case 5: {
                int day = random.nextBoolean() ? -1 : upTo(o.count(8) + 2);
                due("view " + day, x.view(day), o.view(day));
                break;
            }
            case 6: case 7: case 8: join(); break;
            case 9: case 10: case 11: case 12: hour(); break;
            case 13: {
                int station = random.nextInt(3) == 0 ? -1 : someStation();
                int day = someDay();
                int from = someSlot();
                int to = random.nextInt(10) == 0 ? someSlot() : Math.min(47, Math.max(from, 0) + random.nextInt(2));
                int rank = upTo(3) + random.nextInt(2) * 7;
                due("cut", x.cut(station, day, from, to, rank), o.cut(station, day, from, to, rank));
                break;
            }
            case 14: {
                int station = someStation();
                int bits = upTo(257);
                due("own", x.own(station, bits), o.own(station, bits));
                break;
            }
            case 15: if (made < CALLS - 80) { contract(upTo(3), text()); } break;
            case 16: {
                int hands = random.nextInt(10) == 0 ? upTo(5) : 1 + random.nextInt(3);
                due("hands", x.hands(hands), o.hands(hands));
                break;
            }
            case 17: {
                int station = someStation();
                int called = random.nextBoolean() ? upTo(1001) : 1 + upTo(20);
                int heard = upTo(Math.max(1, Math.min(called, 1000)) + 1);
                due("calls", x.calls(station, called, heard), o.calls(station, called, heard));
                break;
            }
            case 18: {
                int sort = random.nextInt(3) == 0 ? upTo(9) : random.nextInt(3);
                due("piece", x.piece(sort), o.piece(sort));
                break;
            }
            case 19: {
                int piece = upTo(o.count(7) + 1);
                int turn = upTo(6);
                int worth = random.nextInt(5) == 0 ? upTo(10001) : upTo(5);
                due("worth", x.worth(piece, turn, worth), o.worth(piece, turn, worth));
                break;
            }
            case 20: {
                int k = upTo(3);
                due("image " + k, x.image(k), o.image(k));
                break;
            }
            default: {
                int k = upTo(3);
                if (random.nextInt(3) == 0) {
                    due("again " + k, x.again(k), o.again(k));
                }
                break;
            }
        }
    }

    private void ask() {
        int station = someStation();
        int hour = someHour();
        int i = upTo(random.nextInt(10) == 0 ? 5 : Math.max(1, o.about(hour, 3)));
        int day = someDay();
        int slot = someSlot();
        switch (random.nextInt(21)) {
            case 0: { int z = upTo(4); due("local", x.local(z, day, slot), o.local(z, day, slot)); break; }
            case 1: {
                int z = upTo(4);
                int d = random.nextInt(4) == 0 ? upTo(203) - 1 : upTo(7) - 1;
                int s = upTo(48);
                due("twice " + z + " " + d + " " + s, x.twice(z, d, s), o.twice(z, d, s));
                break;
            }
            case 2: due("member", x.member(station, day), o.member(station, day)); break;
            case 3: { int w = upTo(9); due("about", x.about(hour, w), o.about(hour, w)); break; }
            case 4: due("clears", x.clears(station, hour, i), o.clears(station, hour, i)); break;
            case 5: {
                boolean pay = random.nextBoolean();
                due("why", x.why(station, hour, i, pay), o.why(station, hour, i, pay));
                break;
            }
            case 6: case 7: case 8: due("sends", x.sends(station, day, slot), o.sends(station, day, slot)); break;
            case 9: due("sent", x.sent(hour, i), o.sent(hour, i)); break;
            case 10: due("miles", x.miles(hour, i), o.miles(hour, i)); break;
            case 11: due("string " + hour + " " + i, x.string(hour, i), o.string(hour, i)); break;
            case 12: case 13: case 14: {
                int w = random.nextInt(4) == 0 ? upTo(4) : 2;
                due("change " + day + " " + slot + " " + w, x.change(day, slot, w), o.change(day, slot, w));
                break;
            }
            case 15: { int b = someDay(); due("paid", x.paid(station, day, b), o.paid(station, day, b)); break; }
            case 16: { int b = someDay(); due("owed", x.owed(station, day, b), o.owed(station, day, b)); break; }
            case 17: { int k = upTo(4); due("lost", x.lost(station, k), o.lost(station, k)); break; }
            case 18: {
                int a = upTo(o.count(6) + 1);
                int b = upTo(o.count(6) + 1);
                int w = upTo(5);
                due("call", x.call(a, w), o.call(a, w));
                due("apart", x.apart(a, b), o.apart(a, b));
                break;
            }
            case 19: { int w = upTo(o.count(7) + 2); due("plan " + w, x.plan(w), o.plan(w)); break; }
            default: { int w = upTo(15); due("count " + w, x.count(w), o.count(w)); break; }
        }
    }
}
