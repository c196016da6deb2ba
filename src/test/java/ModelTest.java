import java.util.ArrayList;
import java.util.List;
import java.util.Map;
import java.util.NoSuchElementException;
import java.util.Random;
import java.util.TreeMap;

/** Random runs of calls on a HullLine and on the Model: each answer, and all that can be asked, must be the same. */
public final class ModelTest {
    private static final String[] COMMON = {"lift 0", "lift -2", "lift -3", "lift -4", "lift -5", "lift -6", "turned",
        "turn too late", "no point", "point", "point at the end", "landed", "landed late", "landed again", "sunk", "raised",
        "rested", "no beds", "loaded", "hold too small", "delivered", "ashore", "excess", "no excess", "suspects", "no way",
        "way of 1", "way of 2", "way of 3", "way of 4", "way of 5", "fault 1", "fault 2", "fault 3", "fault 4", "rules of 0",
        "rules of 1", "rules of 2", "too many facts"};
    private static final String[] BITS = {"lift", "land", "at", "if", "and", "not", "swell", "hour", "light", "free", "fuel",
        "weight", "day", "bags", "<", "=", ">", ";", "3", "11", "12", "99999", "100000", "x", "#"};
    private static final String[] WORDS = {"swell", "hour", "light", "free", "fuel", "weight", "day", "bags"};

    private final Random r;
    private final HullLine x = new HullLine();
    private final Model m = new Model();
    private final List<String> calls = new ArrayList<>();
    private boolean same = true;

    private ModelTest(long seed) {
        r = new Random(seed);
    }

    public static void main(String[] args) {
        int runs = args.length > 0 ? Integer.parseInt(args[0]) : 400;
        Map<String, Integer> seen = new TreeMap<>();
        int wrong = 0;
        for (int i = 0; i < runs; i++) {
            ModelTest t = new ModelTest(i);
            t.play(i % 8 == 7 ? 0 : i % 8 == 6 ? 12 : 3 + i % 4);
            t.m.seen.forEach((k, v) -> seen.merge(k, v, Integer::sum));
            if (!t.same && ++wrong == 3) {
                break;
            }
        }
        System.out.println("ModelTest: " + runs + " runs, " + wrong + " of them not as the model; " + seen);
        for (String s : COMMON) {
            if (!seen.containsKey(s)) {
                System.out.println("ModelTest: no run came to '" + s + "'");
                wrong++;
            }
        }
        if (wrong != 0) {
            System.exit(1);
        }
    }

    private void eq(String call, long got, long due) {
        calls.add(call + " " + got);
        if (same && got != due) {
            same = false;
            System.out.println("ModelTest: " + call + " answered " + got + ", due is " + due + ", behind:");
            for (String c : calls.subList(Math.max(0, calls.size() - 600), calls.size())) {
                System.out.println("  " + c);
            }
        }
    }

    private int any(int lo, int hi) {
        return lo + r.nextInt(hi - lo + 1);
    }

    /** A number of those that are there; now and then one that is not. */
    private int one(int n) {
        int wild = r.nextInt(60);
        return wild == 0 ? -1 : wild == 1 ? n : wild == 2 ? r.nextInt() : n == 0 ? 0 : r.nextInt(n);
    }

    private int stop() {
        return one(m.places.size());
    }

    private int leg() {
        return one(m.ways.size());
    }

    private int boat() {
        return one(m.craft.size());
    }

    private int bag() {
        return one(m.sacks.size());
    }

    private int edge(int lo, int hi) {
        int wild = r.nextInt(40);
        return wild == 0 ? lo - 1 : wild == 1 ? hi + 1 : wild == 2 ? lo : wild == 3 ? hi : any(lo, hi);
    }

    private void play(int stops) {
        for (int i = 0; i < stops; i++) {
            callStop();
        }
        for (int i = 0; i < stops * 2; i++) {
            callLeg();
            callDrums();
        }
        for (int i = 0; i < Math.min(stops, 4); i++) {
            callBoat();
            callBag();
        }
        int length = 400;
        int factShare = r.nextInt(4) == 0 ? 60 : 3;
        for (int i = 0; i < length && same; i++) {
            if (r.nextInt(100) < factShare) {
                callFact();
            } else {
                call();
            }
            if (i % 8 == 0) {
                compareAll();
            }
        }
        compareAll();
    }

    private void call() {
        switch (r.nextInt(40)) {
            case 0: callStop(); break;
            case 1: callLeg(); break;
            case 2: callDrums(); break;
            case 3: callBoat(); break;
            case 4: case 5: callFact(); break;
            case 6: callAsKnown(); break;
            case 7: case 8: callRules(); break;
            case 9: callWildTape(); break;
            case 10: callBarred(); break;
            case 11: case 12: case 13: callFuel(); break;
            case 14: case 15: case 16: case 17: case 18: callLift(); break;
            case 19: case 20: callTurn(); break;
            case 21: callPoint(); break;
            case 22: case 23: case 24: case 25: case 26: callGo(); break;
            case 27: callRest(); break;
            case 28: callBreaks(); break;
            case 29: callRaise(); break;
            case 30: callBag(); break;
            case 31: case 32: callLoad(); break;
            case 33: case 34: callUnload(); break;
            case 35: callRun(); break;
            case 36: case 37: callWay(); break;
            case 38: callMail(); break;
            default: callOf(); break;
        }
    }

    private void callStop() {
        int buoys = edge(1, 4);
        int beds = edge(0, r.nextBoolean() ? 60 : 8);
        boolean light = r.nextInt(3) > 0;
        eq("stop " + buoys + " " + beds + " " + light, x.stop(buoys, beds, light), m.stop(buoys, beds, light));
    }

    private void callLeg() {
        int a = stop();
        int b = stop();
        int miles = r.nextBoolean() ? edge(20, 900) : edge(20, 150);
        eq("leg " + a + " " + b + " " + miles, x.leg(a, b, miles), m.leg(a, b, miles));
    }

    private void callDrums() {
        int s = stop();
        int n = r.nextInt(10) == 0 ? edge(1, 999) : any(1, 30);
        eq("drums " + s + " " + n, x.drums(s, n), m.drums(s, n));
    }

    private void callBoat() {
        int[] v = {stop(), edge(1000, 20000), edge(15000, 40000), edge(60, 200), edge(10, 100), edge(50, 1500),
            edge(0, 3000), edge(2, 9)};
        if (r.nextInt(5) == 0) {
            v = new int[] {stop(), edge(1000, 40000), edge(1000, 90000), edge(60, 200), edge(10, 300), edge(50, 3000),
                edge(0, 20000), edge(2, 9)};
        }
        eq("boat " + java.util.Arrays.toString(v), x.boat(v[0], v[1], v[2], v[3], v[4], v[5], v[6], v[7]),
            m.boat(v[0], v[1], v[2], v[3], v[4], v[5], v[6], v[7]));
    }

    private void callFact() {
        if (r.nextBoolean()) {
            int s = stop();
            int hour = r.nextInt(4) == 0 ? edge(0, 2399) : Math.min(2399, m.now / 60 + r.nextInt(30));
            int v = r.nextInt(3) == 0 ? edge(0, 9) : any(0, 6);
            eq("swell " + s + " " + hour + " " + v, x.swell(s, hour, v), m.swell(s, hour, v));
        } else {
            int l = leg();
            int day = r.nextInt(4) == 0 ? edge(0, 99) : Math.min(99, m.now / 1440 + r.nextInt(3));
            int v = edge(-60, 60);
            eq("wind " + l + " " + day + " " + v, x.wind(l, day, v), m.wind(l, day, v));
        }
    }

    private void callAsKnown() {
        int s = stop();
        int hour = edge(0, 2399);
        int n = edge(0, m.facts.size());
        eq("swellOf " + s + " " + hour + " " + n, x.swellOf(s, hour, n), m.swellOf(s, hour, n));
        int l = leg();
        int day = edge(0, 99);
        eq("windOf " + l + " " + day + " " + n, x.windOf(l, day, n), m.windOf(l, day, n));
    }

    private void feed(String text) {
        for (int at = 0; at < text.length(); at += 20) {
            int[] v = new int[5];
            for (int i = 0; i < 20; i++) {
                v[i / 4] = v[i / 4] << 8 | (at + i < text.length() ? text.charAt(at + i) & 255 : 32);
            }
            eq("feed", x.feed(v[0], v[1], v[2], v[3], v[4]), m.feed(v[0], v[1], v[2], v[3], v[4]));
        }
        if (r.nextInt(6) > 0) {
            int n = Math.min(text.length(), 300) - (r.nextInt(8) == 0 ? 1 : 0);
            eq("end " + n, x.end(n), m.end(n));
        }
        calls.add("tape '" + m.tape + "'");
    }

    /** Lines that are mostly sound, and mostly so. */
    private void callRules() {
        StringBuilder b = new StringBuilder();
        int lines = r.nextInt(12) == 0 ? 15 + r.nextInt(4) : r.nextInt(4);
        for (int i = 0; i < lines; i++) {
            b.append(r.nextBoolean() ? "lift" : "land");
            if (r.nextInt(3) == 0) {
                b.append(" at ").append(r.nextInt(20) == 0 ? 12 : r.nextInt(12));
            }
            b.append(" if ");
            int terms = lines > 4 ? 1 : r.nextInt(15) == 0 ? 6 + r.nextInt(2) : 1 + r.nextInt(2);
            for (int k = 0; k < terms; k++) {
                b.append(k > 0 ? " and " : "").append(r.nextInt(3) == 0 ? "not " : "");
                b.append(lines > 4 ? "day" : WORDS[r.nextInt(8)]).append("<=>".charAt(r.nextInt(3)));
                b.append(r.nextInt(3) == 0 ? r.nextInt(25) : r.nextInt(9000));
            }
            b.append(r.nextInt(40) == 0 ? "" : ";");
        }
        if (r.nextInt(3) > 0) {
            b.setLength(0);
            b.append(r.nextBoolean() ? "" : r.nextBoolean() ? "land if hour>7;" : "lift if free<3 ;land if swell<5;");
        }
        eq("end 0", x.end(0), m.end(0));
        feed(b.toString());
        eq("rules", x.rules(), m.rules());
    }

    private void callWildTape() {
        StringBuilder b = new StringBuilder();
        int n = r.nextInt(30);
        for (int i = 0; i < n; i++) {
            b.append(i > 5 && r.nextInt(3) == 0 ? (char) r.nextInt(256) + "" : BITS[r.nextInt(BITS.length)]);
            b.append(r.nextInt(3) == 0 ? "" : r.nextInt(4) == 0 ? "\n" : " ");
        }
        String text = r.nextInt(3) == 0 ? "lift if day=0;" + b : b.toString();
        feed(text);
        int cut = edge(0, m.tape.length());
        eq("end " + cut, x.end(cut), m.end(cut));
        if (r.nextInt(3) > 0) {
            List<Model.Line> before = m.lines;
            eq("rules", x.rules(), m.rules());
            // wild lines are seldom so: they would keep every boat where it is
            if (before != m.lines && m.lines.size() > 0) {
                eq("rules", x.rules(), m.rules());
            }
        }
    }

    private void callBarred() {
        int b = boat();
        boolean landing = r.nextBoolean();
        eq("barred " + b + " " + landing, x.barred(b, landing), m.barred(b, landing));
    }

    private void callFuel() {
        int b = boat();
        int n = r.nextInt(8) == 0 ? edge(0, 30) : any(1, 6);
        eq("fuel " + b + " " + n, x.fuel(b, n), m.fuel(b, n));
    }

    private int legFrom(int boat) {
        List<Integer> all = new ArrayList<>();
        for (int i = 0; i < m.ways.size(); i++) {
            int at = boat >= 0 && boat < m.craft.size() ? m.craft.get(boat).at : -1;
            if (m.ways.get(i).a == at || m.ways.get(i).b == at) {
                all.add(i);
            }
        }
        return all.isEmpty() || r.nextInt(15) == 0 ? leg() : all.get(r.nextInt(all.size()));
    }

    private void callLift() {
        int b = boat();
        int l = legFrom(b);
        eq("lift " + b + " " + l, x.lift(b, l), m.lift(b, l));
    }

    private void callTurn() {
        int b = boat();
        eq("turn " + b, x.turn(b), m.turn(b));
    }

    private void callPoint() {
        int b = boat();
        int l = legFrom(b);
        eq("point " + b + " " + l, x.point(b, l), m.point(b, l));
    }

    private void callGo() {
        int n = r.nextInt(20) == 0 ? edge(1, 1440) : any(1, r.nextBoolean() ? 60 : 300);
        eq("go " + n, x.go(n), m.go(n));
    }

    private void callRest() {
        int b = boat();
        eq("rest " + b, x.rest(b) ? 1 : 0, m.rest(b) ? 1 : 0);
    }

    private void callBreaks() {
        int b = boat();
        boolean is = r.nextInt(3) == 0;
        eq("breaks " + b + " " + is, x.breaks(b, is) ? 1 : 0, m.breaks(b, is) ? 1 : 0);
    }

    private void callRaise() {
        int b = boat();
        eq("raise " + b, x.raise(b) ? 1 : 0, m.raise(b) ? 1 : 0);
    }

    private void callBag() {
        int from = stop();
        int to = stop();
        int pounds = edge(1, 2000);
        int due = r.nextBoolean() ? edge(0, 143999) : Math.min(143999, m.now + r.nextInt(500));
        eq("bag " + from + " " + to + " " + pounds + " " + due, x.bag(from, to, pounds, due), m.bag(from, to, pounds, due));
    }

    private void callLoad() {
        int g = bag();
        int b = boat();
        for (int i = 0; i < m.sacks.size() && r.nextInt(6) > 0; i++) {
            int k = r.nextInt(m.sacks.size());
            if (m.mail(k, 0) == 0 && boat(m.mail(k, 1)) >= 0) {
                g = k;
                b = boat(m.mail(k, 1));
            }
        }
        eq("load " + g + " " + b, x.load(g, b) ? 1 : 0, m.load(g, b) ? 1 : 0);
    }

    /** A boat that is moored at a stop. */
    private int boat(int stop) {
        for (int i = 0; i < m.craft.size(); i++) {
            if (m.of(i, 0) == 0 && m.of(i, 1) == stop) {
                return i;
            }
        }
        return -1;
    }

    private void callUnload() {
        int g = bag();
        for (int i = 0; i < m.sacks.size() && r.nextInt(4) > 0; i++) {
            int k = m.mail(i, 2);
            if (k >= 0 && m.of(k, 0) == 0 && m.of(k, 1) == m.sacks.get(i).to) {
                g = i;
            }
        }
        eq("unload " + g, x.unload(g) ? 1 : 0, m.unload(g) ? 1 : 0);
    }

    private void callRun() {
        int l = one(m.lifted.size());
        int w = r.nextInt(10) == 0 ? edge(0, 200000)
            : (l >= 0 && l < m.lifted.size() ? m.lifted.get(l).weight : 10000) + any(97, 102) + (r.nextBoolean() ? 300 : 0);
        eq("run " + l + " " + w, x.run(l, w) ? 1 : 0, m.run(l, w) ? 1 : 0);
    }

    private void callWay() {
        int b = boat();
        int from = stop();
        int to = stop();
        int minute = r.nextInt(4) == 0 ? edge(0, 143999) : r.nextInt(6) == 0 ? any(141000, 143999) : m.now;
        int n = edge(0, m.facts.size());
        int what = r.nextInt(10) == 0 ? edge(0, 16) : 0;
        eq("way " + b + " " + from + " " + to + " " + minute + " " + n + " " + what, x.way(b, from, to, minute, n, what),
            m.way(b, from, to, minute, n, what));
        for (what = 0; what < 16; what = what == 1 ? 10 : what + 1) {
            eq("way " + b + " " + from + " " + to + " " + minute + " " + n + " " + what, x.way(b, from, to, minute, n, what),
                m.way(b, from, to, minute, n, what));
        }
    }

    private static long mailOf(HullLine x, int bag, int what) {
        try {
            return x.mail(bag, what);
        } catch (NoSuchElementException e) {
            return -99;
        }
    }

    private static long mailOf(Model m, int bag, int what) {
        try {
            return m.mail(bag, what);
        } catch (NoSuchElementException e) {
            return -99;
        }
    }

    private static long boatOf(HullLine x, int boat, int what) {
        try {
            return x.of(boat, what);
        } catch (NoSuchElementException e) {
            return -99;
        }
    }

    private static long boatOf(Model m, int boat, int what) {
        try {
            return m.of(boat, what);
        } catch (NoSuchElementException e) {
            return -99;
        }
    }

    private void callMail() {
        int g = bag();
        int what = edge(0, 16);
        eq("mail " + g + " " + what, mailOf(x, g, what), mailOf(m, g, what));
    }

    private void callOf() {
        int b = boat();
        int what = edge(0, 9);
        eq("of " + b + " " + what, boatOf(x, b, what), boatOf(m, b, what));
    }

    private void compareAll() {
        List<String> before = new ArrayList<>(calls);
        for (int i = -1; i <= 14; i++) {
            eq("count " + i, x.count(i), m.count(i));
        }
        for (int i = -1; i <= m.places.size(); i++) {
            eq("free " + i, x.free(i), m.free(i));
        }
        for (int i = -1; i <= m.craft.size(); i++) {
            for (int w = -1; w <= 10; w++) {
                eq("of " + i + " " + w, boatOf(x, i, w), boatOf(m, i, w));
            }
        }
        for (int i = -1; i <= m.sacks.size(); i++) {
            for (int w = -1; w <= 17; w++) {
                eq("mail " + i + " " + w, mailOf(x, i, w), mailOf(m, i, w));
            }
        }
        eq("suspects", x.suspects(), m.suspects());
        if (same) {
            calls.clear();
            calls.addAll(before);
        }
    }
}
