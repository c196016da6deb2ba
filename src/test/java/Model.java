import java.util.ArrayList;
import java.util.Arrays;
import java.util.HashMap;
import java.util.HashSet;
import java.util.List;
import java.util.Map;
import java.util.NoSuchElementException;
import java.util.Set;
import java.util.regex.Matcher;
import java.util.regex.Pattern;

/** The document told a second time, by the shortest road and with the whole library: slow, and without HullLine's code. */
final class Model {
    static final class Place { int buoys, beds, drums; boolean light; }
    static final class Way { int a, b, miles; }
    static final class Fact { boolean ofSwell; int where, when, v; }
    static final class Craft {
        int empty, lift, speed, burn, tank, hold, crew;
        String state = "moored";
        int at, from, fuel, duty, cause = -1, rested = -100000, e, minutes, windAway;
        boolean broken, turned;
    }
    static final class Sack { int to, pounds, due, at, late, boat = -1; String state = "ashore"; int[] lost = new int[7]; }
    static final class Lifted { int weight, found = -1; Set<Integer> bags = new HashSet<>(); }
    static final class Term { boolean not; String word; char sign; int number; }
    static final class Line { String what; int at = -1; List<Term> terms = new ArrayList<>(); }
    static final class Bad extends RuntimeException {
        private static final long serialVersionUID = 1;
        final int kind, place;
        Bad(int kind, int place) { this.kind = kind; this.place = place; }
    }

    final List<Place> places = new ArrayList<>();
    final List<Way> ways = new ArrayList<>();
    final List<Fact> facts = new ArrayList<>();
    final List<Craft> craft = new ArrayList<>();
    final List<Sack> sacks = new ArrayList<>();
    final List<Lifted> lifted = new ArrayList<>();
    final Map<String, Integer> seen = new HashMap<>();
    List<Line> lines = new ArrayList<>();
    String tape = "";
    int now, burnt, spilt;

    /** Counts what came up, so that a test can tell that it came up at all. */
    private void saw(String what) { seen.merge(what, 1, Integer::sum); }

    private static boolean in(long v, long lo, long hi) { return lo <= v && v <= hi; }
    private static int up(long a, long b) { return (int) Math.ceil((double) a / (double) b); }
    private boolean stopIs(int s) { return in(s, 0, places.size() - 1); }
    private boolean legIs(int l) { return in(l, 0, ways.size() - 1); }
    private boolean boatIs(int b) { return in(b, 0, craft.size() - 1); }
    private boolean moored(int b) { return boatIs(b) && craft.get(b).state.equals("moored"); }

    int stop(int buoys, int beds, boolean light) {
        if (places.size() == 12 || !in(buoys, 1, 4) || !in(beds, 0, 60)) return -1;
        Place p = new Place();
        p.buoys = buoys; p.beds = beds; p.light = light;
        places.add(p);
        return places.indexOf(p);
    }

    int leg(int a, int b, int miles) {
        if (ways.size() == 30 || !stopIs(a) || !stopIs(b) || a == b || !in(miles, 20, 900)) return -1;
        Way w = new Way();
        w.a = a; w.b = b; w.miles = miles;
        ways.add(w);
        return ways.indexOf(w);
    }

    int drums(int stop, int n) {
        if (!stopIs(stop) || !in(n, 1, 999) || places.get(stop).drums + n > 999) return -1;
        return places.get(stop).drums += n;
    }

    int boat(int stop, int empty, int lift, int speed, int burn, int tank, int hold, int crew) {
        if (craft.size() == 6 || !stopIs(stop) || free(stop) == 0) return -1;
        if (!in(empty, 1000, 40000) || !in(lift, 1000, 90000) || !in(speed, 60, 200) || !in(burn, 10, 300)) return -1;
        if (!in(tank, 50, 3000) || !in(hold, 0, 20000) || !in(crew, 2, 9)) return -1;
        Craft c = new Craft();
        c.at = stop; c.empty = empty; c.lift = lift; c.speed = speed;
        c.burn = burn; c.tank = tank; c.hold = hold; c.crew = crew;
        craft.add(c);
        return craft.indexOf(c);
    }

    private int tell(boolean ofSwell, int where, int when, int v) {
        if (facts.size() == 160) { saw("too many facts"); return -1; }
        Fact f = new Fact();
        f.ofSwell = ofSwell; f.where = where; f.when = when; f.v = v;
        facts.add(f);
        return facts.indexOf(f);
    }

    int swell(int stop, int hour, int v) {
        return stopIs(stop) && in(hour, 0, 2399) && in(v, 0, 9) ? tell(true, stop, hour, v) : -1;
    }

    int wind(int leg, int day, int v) {
        return legIs(leg) && in(day, 0, 99) && in(v, -60, 60) ? tell(false, leg, day, v) : -1;
    }

    private int known(boolean ofSwell, int where, int when, int n) {
        int best = ofSwell ? 3 : 0;
        int latest = -1;
        for (Fact f : facts.subList(0, n)) {
            if (f.ofSwell == ofSwell && f.where == where && f.when <= when && f.when >= latest) {
                latest = f.when;
                best = f.v;
            }
        }
        return best;
    }

    int swellOf(int stop, int hour, int n) {
        return stopIs(stop) && in(hour, 0, 2399) && in(n, 0, facts.size()) ? known(true, stop, hour, n) : -1;
    }

    int windOf(int leg, int day, int n) {
        return legIs(leg) && in(day, 0, 99) && in(n, 0, facts.size()) ? known(false, leg, day, n) : -1000;
    }

    int feed(int a, int b, int c, int d, int e) {
        if (tape.length() + 20 > 300) return -1;
        for (int v : new int[] {a, b, c, d, e}) {
            tape += "" + (char) (v >>> 24) + (char) (v >>> 16 & 255) + (char) (v >>> 8 & 255) + (char) (v & 255);
        }
        return tape.length();
    }

    int end(int n) {
        if (!in(n, 0, tape.length())) return -1;
        tape = tape.substring(0, n);
        return n;
    }

    // ---- rules: tokens first, each with its place; "" is the end, "?" is none

    private static final Pattern TOKEN = Pattern.compile("[ \n]+|[a-z]+|[0-9]+|[<=>;]|.", Pattern.DOTALL);
    private List<String> tokens;
    private List<Integer> spots;
    private int at;

    int rules() {
        tokens = new ArrayList<>();
        spots = new ArrayList<>();
        Matcher m = TOKEN.matcher(tape);
        while (m.find()) {
            String t = m.group();
            if (t.isBlank() && t.matches("[ \n]+")) continue;
            tokens.add(t.matches("[a-z]+|[0-9]{1,5}|[<=>;]") ? t : "?");
            spots.add(m.start());
        }
        tokens.add("");
        spots.add(tape.length());
        at = 0;
        tape = "";
        try {
            List<Line> read = new ArrayList<>();
            while (!tokens.get(at).isEmpty()) {
                if (!peek("lift|land")) throw bad(1);
                if (read.size() == 16) throw bad(2);
                read.add(line());
            }
            lines = read;
            saw("rules of " + Math.min(lines.size(), 2));
            return lines.size();
        } catch (Bad bad) {
            saw("fault " + bad.kind);
            return -1 - bad.kind - 10 * bad.place;
        }
    }

    private Bad bad(int kind) { return new Bad(kind, spots.get(at)); }
    private boolean peek(String regex) { return tokens.get(at).matches(regex); }
    private String take(String regex) {
        if (!peek(regex)) throw bad(1);
        return tokens.get(at++);
    }

    private Line line() {
        Line l = new Line();
        l.what = take("lift|land");
        if (peek("at")) {
            take("at");
            if (peek("[0-9]+") && Integer.parseInt(tokens.get(at)) > 11) throw bad(4);
            l.at = Integer.parseInt(take("[0-9]+"));
        }
        take("if");
        l.terms.add(term());
        while (peek("and")) {
            take("and");
            if (l.terms.size() == 6 && peek("not|swell|hour|light|free|fuel|weight|day|bags")) throw bad(3);
            l.terms.add(term());
        }
        take(";");
        return l;
    }

    private Term term() {
        Term t = new Term();
        t.not = peek("not");
        if (t.not) take("not");
        t.word = take("swell|hour|light|free|fuel|weight|day|bags");
        t.sign = take("[<=>]").charAt(0);
        t.number = Integer.parseInt(take("[0-9]+"));
        return t;
    }

    private int worth(String word, Craft c) {
        Place p = places.get(c.at);
        if (word.equals("swell")) return swellNow(c.at);
        if (word.equals("hour")) return now / 60 % 24;
        if (word.equals("light")) return p.light ? 1 : 0;
        if (word.equals("free")) return free(c.at);
        if (word.equals("fuel")) return c.fuel;
        if (word.equals("weight")) return weight(c);
        if (word.equals("day")) return now / 1440;
        return aboard(c).size();
    }

    private int firstNotSo(Craft c, String what) {
        for (int i = 0; i < lines.size(); i++) {
            Line l = lines.get(i);
            if (!l.what.equals(what) || l.at != -1 && l.at != c.at) continue;
            for (Term t : l.terms) {
                int v = worth(t.word, c);
                boolean so = t.sign == '<' && v < t.number || t.sign == '=' && v == t.number || t.sign == '>' && v > t.number;
                if (so == t.not) return i;
            }
        }
        return -1;
    }

    int barred(int boat, boolean landing) {
        return moored(boat) ? firstNotSo(craft.get(boat), landing ? "land" : "lift") : -2;
    }

    // ---- boats

    private List<Sack> aboard(Craft c) {
        List<Sack> all = new ArrayList<>();
        for (Sack s : sacks) if (s.state.equals("aboard") && craft.get(s.boat) == c) all.add(s);
        return all;
    }

    private int weight(Craft c) {
        int w = c.empty + 6 * c.fuel;
        for (Sack s : aboard(c)) w += s.pounds;
        return w;
    }

    private int swellNow(int stop) { return known(true, stop, now / 60, facts.size()); }
    private static int ground(Craft c, int wind) { return Math.max(20, c.speed + wind); }
    private static int burns(Craft c, int minutes) { return up((long) c.burn * minutes, 60); }
    private int windAlong(int leg, int from, int day, int n) {
        int w = known(false, leg, day, n);
        return ways.get(leg).a == from ? w : -w;
    }
    private boolean atEnd(int boat, int leg) {
        return moored(boat) && legIs(leg) && (ways.get(leg).a == craft.get(boat).at || ways.get(leg).b == craft.get(boat).at);
    }

    int fuel(int boat, int n) {
        if (!moored(boat) || n < 1 || places.get(craft.get(boat).at).drums < n) return -1;
        Craft c = craft.get(boat);
        places.get(c.at).drums -= n;
        int all = c.fuel + 50 * n;
        c.fuel = Math.min(c.tank, all);
        spilt += all - c.fuel;
        return c.fuel;
    }

    int lift(int boat, int leg) {
        if (!atEnd(boat, leg)) return -1;
        Craft c = craft.get(boat);
        Way w = ways.get(leg);
        int wind = windAlong(leg, c.at, now / 1440, facts.size());
        int minutes = up(60L * w.miles, ground(c, wind));
        int s = swellNow(c.at);
        int lifts = s > 6 ? 0 : c.lift - Math.abs(s - 2) * (c.lift / 25);
        int no = 0;
        if (firstNotSo(c, "lift") != -1) no = -2;
        else if (lifts < weight(c)) no = -3;
        else if (c.fuel < burns(c, minutes)) no = -4;
        else if (rests(c) || c.duty + minutes > 840) no = -5;
        else if (c.broken) no = -6;
        saw("lift " + no);
        if (no != 0) {
            c.cause = -2 - no;
            return no;
        }
        if (lifted.size() < 200) {
            Lifted l = new Lifted();
            l.weight = weight(c);
            for (Sack g : aboard(c)) l.bags.add(sacks.indexOf(g));
            lifted.add(l);
        }
        int calm = up(60L * w.miles, c.speed);
        for (Sack g : aboard(c)) if (minutes > calm) g.lost[5] += minutes - calm;
        c.state = "air";
        c.cause = -1;
        c.from = c.at;
        c.at = w.a == c.at ? w.b : w.a;
        c.e = 0;
        c.minutes = minutes;
        c.windAway = wind;
        c.turned = false;
        return minutes;
    }

    private static int back(Craft c, int e, int wind) { return up((long) e * ground(c, wind), ground(c, -wind)); }

    int turn(int boat) {
        if (!boatIs(boat)) return -1;
        Craft c = craft.get(boat);
        if (!c.state.equals("air") || c.turned || c.e < 1 || c.e >= c.minutes) return -1;
        int all = c.e + back(c, c.e, c.windAway);
        if (burns(c, all) > c.fuel) { saw("turn too late"); return -1; }
        c.turned = true;
        c.minutes = all;
        c.at = c.from;
        saw("turned");
        return all;
    }

    int point(int boat, int leg) {
        if (!atEnd(boat, leg)) return -1;
        Craft c = craft.get(boat);
        int wind = windAlong(leg, c.at, now / 1440, facts.size());
        int minutes = up(60L * ways.get(leg).miles, ground(c, wind));
        int best = -1;
        for (int e = 1; e <= minutes; e++) if (burns(c, e + back(c, e, wind)) <= c.fuel) best = e;
        saw(best == -1 ? "no point" : best == minutes ? "point at the end" : "point");
        return best;
    }

    private static boolean night(int minute) { return minute / 60 % 24 < 6 || minute / 60 % 24 >= 18; }

    int go(int n) {
        if (!in(n, 1, 1440) || now + n > 143999) return -1;
        for (int i = 0; i < n; i++) minute();
        return now;
    }

    private void minute() {
        now++;
        for (Craft c : craft) {
            if (c.state.equals("moored") && c.cause != -1) for (Sack s : aboard(c)) s.lost[c.cause]++;
            if (!c.state.equals("air")) continue;
            c.duty++;
            c.e++;
            if (c.e < c.minutes) continue;
            boolean can = free(c.at) > 0 && swellNow(c.at) <= 7 && (!night(now) || places.get(c.at).light)
                && firstNotSo(c, "land") == -1;
            if (burns(c, c.e) > c.fuel) {
                saw(can ? "sunk, though it could land" : "sunk");
                for (Sack s : aboard(c)) s.state = "lost";
                burnt += c.fuel;
                c.fuel = 0;
                c.state = "sunk";
            } else if (can) {
                saw(c.turned ? "landed again" : c.e > c.minutes ? "landed late" : "landed");
                burnt += burns(c, c.e);
                c.fuel -= burns(c, c.e);
                c.state = "moored";
            } else {
                for (Sack s : aboard(c)) s.lost[6]++;
            }
        }
    }

    private boolean rests(Craft c) { return now - c.rested < 480; }

    boolean rest(int boat) {
        if (!moored(boat) || rests(craft.get(boat))) return false;
        Craft c = craft.get(boat);
        int heads = c.crew;
        for (Craft d : craft) if (d.state.equals("moored") && d.at == c.at && rests(d)) heads += d.crew;
        if (places.get(c.at).beds < heads) { saw("no beds"); return false; }
        c.rested = now;
        c.duty = 0;
        saw("rested");
        return true;
    }

    boolean breaks(int boat, boolean is) {
        if (!moored(boat) || craft.get(boat).broken == is) return false;
        craft.get(boat).broken = is;
        return true;
    }

    boolean raise(int boat) {
        if (!boatIs(boat) || !craft.get(boat).state.equals("sunk") || free(craft.get(boat).at) == 0) return false;
        craft.get(boat).state = "moored";
        craft.get(boat).broken = true;
        saw("raised");
        return true;
    }

    // ---- mail

    int bag(int from, int to, int pounds, int due) {
        if (sacks.size() == 30 || !stopIs(from) || !stopIs(to) || from == to) return -1;
        if (!in(pounds, 1, 2000) || !in(due, 0, 143999)) return -1;
        Sack s = new Sack();
        s.at = from; s.to = to; s.pounds = pounds; s.due = due;
        sacks.add(s);
        return sacks.indexOf(s);
    }

    boolean load(int bag, int boat) {
        if (!in(bag, 0, sacks.size() - 1) || !moored(boat)) return false;
        Sack s = sacks.get(bag);
        Craft c = craft.get(boat);
        int all = s.pounds;
        for (Sack t : aboard(c)) all += t.pounds;
        if (!s.state.equals("ashore") || s.at != c.at) return false;
        if (all > c.hold) { saw("hold too small"); return false; }
        s.state = "aboard";
        s.boat = boat;
        saw("loaded");
        return true;
    }

    boolean unload(int bag) {
        if (!in(bag, 0, sacks.size() - 1) || !sacks.get(bag).state.equals("aboard")) return false;
        Sack s = sacks.get(bag);
        if (!moored(s.boat)) return false;
        s.at = craft.get(s.boat).at;
        s.state = s.at == s.to ? "delivered" : "ashore";
        if (s.at == s.to) s.late = Math.max(0, now - s.due);
        saw(s.state);
        return true;
    }

    int mail(int bag, int what) {
        if (!in(bag, 0, sacks.size() - 1)) throw new NoSuchElementException();
        Sack s = sacks.get(bag);
        boolean land = s.state.equals("ashore") || s.state.equals("delivered");
        if (what == 0) return Arrays.asList("ashore", "aboard", "delivered", "lost").indexOf(s.state);
        if (what == 1) return land ? s.at : -1;
        if (what == 2) return s.state.equals("aboard") ? s.boat : -1;
        if (what == 3) return s.state.equals("delivered") ? s.late : -1;
        if (in(what, 10, 16)) return s.lost[what - 10];
        throw new NoSuchElementException();
    }

    int of(int boat, int what) {
        if (!boatIs(boat)) throw new NoSuchElementException();
        Craft c = craft.get(boat);
        boolean air = c.state.equals("air");
        int[] all = {Arrays.asList("moored", "air", "sunk").indexOf(c.state), c.at, c.fuel, weight(c), c.duty, c.cause,
            air ? c.e : 0, air ? c.minutes : -1, rests(c) ? 1 : 0, c.broken ? 1 : 0};
        if (!in(what, 0, all.length - 1)) throw new NoSuchElementException();
        return all[what];
    }

    boolean run(int lift, int weight) {
        if (!in(lift, 0, lifted.size() - 1) || !in(weight, 0, 200000)) return false;
        Lifted l = lifted.get(lift);
        l.found = weight;
        saw(weight - l.weight >= 100 ? "excess" : "no excess");
        return weight - l.weight >= 100;
    }

    int suspects() {
        int bits = 0;
        for (int i = 0; i < sacks.size(); i++) {
            boolean any = false;
            boolean is = true;
            for (Lifted l : lifted) {
                boolean excess = l.found >= 0 && l.found - l.weight >= 100;
                any |= excess;
                if (l.found >= 0 && l.bags.contains(i) != excess && (excess || l.bags.contains(i))) is = false;
            }
            if (any && is) bits += 1 << i;
        }
        if (bits != 0) saw("suspects");
        return bits;
    }

    // ---- ways: every one of them is made, then the best is taken

    private final List<int[]> allWays = new ArrayList<>();

    int way(int boat, int from, int to, int minute, int n, int what) {
        if (!boatIs(boat) || !stopIs(from) || !stopIs(to) || from == to) return -1;
        if (!in(minute, 0, 143999) || !in(n, 0, facts.size())) return -1;
        allWays.clear();
        Craft c = craft.get(boat);
        follow(c, to, n, new ArrayList<>(), new ArrayList<>(List.of(from)), new int[] {minute, c.tank});
        int[] best = null;
        for (int[] w : allWays) if (best == null || compare(w, best) < 0) best = w;
        saw(best == null ? "no way" : "way of " + (best.length - 1));
        if (best == null) return -1;
        if (what == 0) return best[0];
        if (what == 1) return best.length - 1;
        return in(what, 10, 8 + best.length) ? best[what - 9] : -1;
    }

    private static int compare(int[] a, int[] b) {
        for (int i = 0; i < Math.min(a.length, b.length); i++) if (a[i] != b[i]) return Integer.compare(a[i], b[i]);
        return Integer.compare(a.length, b.length);
    }

    private void follow(Craft c, int to, int n, List<Integer> legs, List<Integer> stops, int[] minuteAndFuel) {
        int here = stops.get(stops.size() - 1);
        if (here == to) {
            int[] w = new int[legs.size() + 1];
            w[0] = minuteAndFuel[0];
            for (int i = 0; i < legs.size(); i++) w[i + 1] = legs.get(i);
            allWays.add(w);
            return;
        }
        if (legs.size() == 5) return;
        int fuel = legs.isEmpty() || places.get(here).drums > 0 ? c.tank : minuteAndFuel[1];
        for (int l = 0; l < ways.size(); l++) {
            Way w = ways.get(l);
            int next = w.a == here ? w.b : w.b == here ? w.a : -1;
            if (next == -1 || stops.contains(next)) continue;
            List<Integer> starts = new ArrayList<>(List.of(minuteAndFuel[0]));
            for (int m = minuteAndFuel[0] + 1; starts.size() < 25; m++) if (m % 60 == 0) starts.add(m);
            for (int start : starts) {
                if (start > 143999 || known(true, here, start / 60, n) > 6) continue;
                int minutes = up(60L * w.miles, ground(c, windAlong(l, here, start / 1440, n)));
                int coming = start + minutes;
                if (coming > 143999 || night(coming) && !places.get(next).light) continue;
                if (burns(c, minutes) <= fuel) {
                    legs.add(l);
                    stops.add(next);
                    follow(c, to, n, legs, stops, new int[] {coming, fuel - burns(c, minutes)});
                    legs.remove(legs.size() - 1);
                    stops.remove(stops.size() - 1);
                }
                break;
            }
        }
    }

    int count(int what) {
        int tanks = 0;
        for (Craft c : craft) tanks += c.fuel;
        int drums = 0;
        for (Place p : places) drums += p.drums;
        int delivered = 0;
        for (Sack s : sacks) if (s.state.equals("delivered")) delivered++;
        int[] all = {now, places.size(), ways.size(), craft.size(), facts.size(), sacks.size(), lifted.size(), tanks, drums,
            burnt, spilt, delivered, tape.length(), lines.size()};
        return in(what, 0, all.length - 1) ? all[what] : -1;
    }

    int free(int stop) {
        if (!stopIs(stop)) return -1;
        int n = places.get(stop).buoys;
        for (Craft c : craft) if (c.state.equals("moored") && c.at == stop) n--;
        return n;
    }
}
