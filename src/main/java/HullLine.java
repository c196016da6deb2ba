import java.util.ArrayList;
import java.util.List;
import java.util.NoSuchElementException;

/** A line of flying boats between lagoons. The project's document says, promise by promise, what each call does. */
public final class HullLine {
    public static final int NONE = -1;

    private static final int HOUR_MINUTES = 60;
    private static final int DAY_MINUTES = 1440;
    private static final int LAST_MINUTE = 143999;
    private static final int LAST_HOUR = 2399;
    private static final int LAST_DAY = 99;

    private static final int MAX_STOPS = 12;
    private static final int MAX_LEGS = 30;
    private static final int MAX_BOATS = 6;
    private static final int MAX_BAGS = 30;
    private static final int MAX_DRUMS = 999;
    private static final int DRUM_GALLONS = 50;
    private static final int GALLON_POUNDS = 6;
    private static final int MAX_DUTY = 840;
    private static final int REST_MINUTES = 480;
    private static final int LANDING_SWELL = 7;
    private static final int LIFTING_SWELL = 6;
    private static final int MAX_FOUND_WEIGHT = 200000;
    private static final int NO_WIND_KNOWN = -1000;

    private static final int MOORED = 0;
    private static final int AIR = 1;
    private static final int SUNK = 2;

    private static final int ASHORE = 0;
    private static final int ABOARD = 1;
    private static final int DELIVERED = 2;
    private static final int LOST = 3;

    private static final int CAUSE_RULE = 0;
    private static final int CAUSE_WATER = 1;
    private static final int CAUSE_FUEL = 2;
    private static final int CAUSE_CREW = 3;
    private static final int CAUSE_BROKEN = 4;
    private static final int CAUSE_WIND = 5;
    private static final int CAUSE_HELD = 6;
    private static final int CAUSES = 7;

    private static final int WORD_SWELL = 0;
    private static final int WORD_HOUR = 1;
    private static final int WORD_LIGHT = 2;
    private static final int WORD_FREE = 3;
    private static final int WORD_FUEL = 4;
    private static final int WORD_WEIGHT = 5;
    private static final int WORD_DAY = 6;
    private static final int WORD_BAGS = 7;
    private static final int WORDS = 8;

    private final List<Stop> stops = new ArrayList<>();
    private final List<Leg> legs = new ArrayList<>();
    private final List<Boat> boats = new ArrayList<>();
    private final List<Bag> bags = new ArrayList<>();
    private final Facts facts = new Facts();
    private final Tape tape = new Tape();
    private final LiftLog log = new LiftLog();
    private final int[] wordValues = new int[WORDS];
    private Rules inForce = new Rules();
    private Rules spare = new Rules();
    private int now;
    private int burntGallons;
    private int spiltGallons;
    private int deliveredBags;

    public HullLine() {
    }

    // ---- the line: stops, legs, drums, boats

    public int stop(int buoys, int beds, boolean light) {
        if (stops.size() >= MAX_STOPS || !within(buoys, 1, 4) || !within(beds, 0, 60)) {
            return NONE;
        }
        stops.add(new Stop(stops.size(), buoys, beds, light));
        return stops.size() - 1;
    }

    public int leg(int a, int b, int miles) {
        Stop first = stopAt(a);
        Stop second = stopAt(b);
        if (legs.size() >= MAX_LEGS || first == null || second == null || a == b || !within(miles, 20, 900)) {
            return NONE;
        }
        legs.add(new Leg(legs.size(), first, second, miles));
        return legs.size() - 1;
    }

    public int drums(int stop, int n) {
        Stop place = stopAt(stop);
        if (place == null || !within(n, 1, MAX_DRUMS) || place.drums + n > MAX_DRUMS) {
            return NONE;
        }
        place.drums += n;
        return place.drums;
    }

    public int boat(int stop, int empty, int lift, int speed, int burn, int tank, int hold, int crew) {
        Stop place = stopAt(stop);
        if (boats.size() >= MAX_BOATS || place == null || place.freeBuoys() < 1) {
            return NONE;
        }
        Hull hull = new Hull(empty, lift, speed, burn, tank, hold, crew);
        if (!hull.isAsTold()) {
            return NONE;
        }
        boats.add(new Boat(boats.size(), hull, place));
        place.moored++;
        return boats.size() - 1;
    }

    // ---- swell and wind

    public int swell(int stop, int hour, int v) {
        if (stopAt(stop) == null || !within(hour, 0, LAST_HOUR) || !within(v, 0, 9)) {
            return NONE;
        }
        return facts.tell(stop, hour, v);
    }

    public int wind(int leg, int day, int v) {
        if (legAt(leg) == null || !within(day, 0, LAST_DAY) || !within(v, -60, 60)) {
            return NONE;
        }
        return facts.tell(MAX_STOPS + leg, day, v);
    }

    public int swellOf(int stop, int hour, int n) {
        Stop place = stopAt(stop);
        if (place == null || !within(hour, 0, LAST_HOUR) || !within(n, 0, facts.told)) {
            return NONE;
        }
        return facts.swellAt(place, hour, n);
    }

    public int windOf(int leg, int day, int n) {
        Leg way = legAt(leg);
        if (way == null || !within(day, 0, LAST_DAY) || !within(n, 0, facts.told)) {
            return NO_WIND_KNOWN;
        }
        return facts.windFrom(way.first, way, day, n);
    }

    // ---- the tape and the rules

    public int feed(int a, int b, int c, int d, int e) {
        if (tape.length > Tape.SIZE - Tape.FED) {
            return NONE;
        }
        tape.append(a);
        tape.append(b);
        tape.append(c);
        tape.append(d);
        tape.append(e);
        return tape.length;
    }

    public int end(int n) {
        if (!within(n, 0, tape.length)) {
            return NONE;
        }
        tape.length = n;
        return n;
    }

    public int rules() {
        int fault = spare.read(tape);
        tape.length = 0;
        if (fault != 0) {
            return -1 - fault;
        }
        Rules old = inForce;
        inForce = spare;
        spare = old;
        return inForce.lines;
    }

    public int barred(int boat, boolean landing) {
        Boat b = mooredBoat(boat);
        return b == null ? -2 : firstBroken(b, landing);
    }

    // ---- fuel, lifting, turning

    public int fuel(int boat, int n) {
        Boat b = mooredBoat(boat);
        if (b == null || n < 1 || n > b.stop.drums) {
            return NONE;
        }
        b.stop.drums -= n;
        int pumped = Math.min(n * DRUM_GALLONS, b.hull.tank - b.fuel);
        spiltGallons += n * DRUM_GALLONS - pumped;
        b.fuel += pumped;
        return b.fuel;
    }

    public int lift(int boat, int leg) {
        Boat b = mooredBoat(boat);
        Leg way = legAt(leg);
        if (b == null || way == null || !way.touches(b.stop)) {
            return NONE;
        }
        int wind = windNow(b.stop, way);
        int minutes = way.minutesAt(b.hull.ground(wind));
        int refusal = refusalOf(b, minutes);
        if (refusal != NONE) {
            b.cause = refusal;
            return -2 - refusal;
        }
        log.note(b.weight(), b.cargo);
        charge(b, CAUSE_WIND, Math.max(0, minutes - way.minutesAt(b.hull.ground(0))));
        b.stop.moored--;
        b.leave(way, wind);
        return minutes;
    }

    public int turn(int boat) {
        Boat b = boatAt(boat);
        if (b == null || !b.mayTurn()) {
            return NONE;
        }
        int inAll = b.air + minutesBack(b.air, b.ground, b.groundBack);
        if (b.hull.burnt(inAll) > b.fuel) {
            return NONE;
        }
        b.turnBack(inAll);
        return inAll;
    }

    public int point(int boat, int leg) {
        Boat b = mooredBoat(boat);
        Leg way = legAt(leg);
        if (b == null || way == null || !way.touches(b.stop)) {
            return NONE;
        }
        int wind = windNow(b.stop, way);
        int ground = b.hull.ground(wind);
        int groundBack = b.hull.ground(-wind);
        for (int e = way.minutesAt(ground); e >= 1; e--) {
            if (b.hull.burnt(e + minutesBack(e, ground, groundBack)) <= b.fuel) {
                return e;
            }
        }
        return NONE;
    }

    // ---- minutes, rest, breaking, raising

    public int go(int n) {
        if (!within(n, 1, DAY_MINUTES) || n > LAST_MINUTE - now) {
            return NONE;
        }
        for (int i = 0; i < n; i++) {
            now++;
            for (int k = 0; k < boats.size(); k++) {
                passMinute(boats.get(k));
            }
        }
        return now;
    }

    public boolean rest(int boat) {
        Boat b = mooredBoat(boat);
        if (b == null || b.isResting(now) || b.stop.beds < headsResting(b.stop) + b.hull.crew) {
            return false;
        }
        b.restEnd = now + REST_MINUTES;
        b.duty = 0;
        return true;
    }

    public boolean breaks(int boat, boolean is) {
        Boat b = mooredBoat(boat);
        if (b == null || b.broken == is) {
            return false;
        }
        b.broken = is;
        return true;
    }

    public boolean raise(int boat) {
        Boat b = boatAt(boat);
        if (b == null || b.state != SUNK || b.stop.freeBuoys() < 1) {
            return false;
        }
        b.stop.moored++;
        b.state = MOORED;
        b.broken = true;
        return true;
    }

    // ---- mail

    public int bag(int from, int to, int pounds, int due) {
        Stop source = stopAt(from);
        Stop goal = stopAt(to);
        if (bags.size() >= MAX_BAGS || source == null || goal == null || from == to) {
            return NONE;
        }
        if (!within(pounds, 1, 2000) || !within(due, 0, LAST_MINUTE)) {
            return NONE;
        }
        bags.add(new Bag(source, goal, pounds, due));
        return bags.size() - 1;
    }

    public boolean load(int bag, int boat) {
        Bag g = bagAt(bag);
        Boat b = mooredBoat(boat);
        if (g == null || b == null || g.state != ASHORE || g.stop != b.stop) {
            return false;
        }
        if (b.pounds + g.pounds > b.hull.hold) {
            return false;
        }
        g.state = ABOARD;
        g.boat = b.number;
        b.pounds += g.pounds;
        b.cargo |= 1 << bag;
        return true;
    }

    public boolean unload(int bag) {
        Bag g = bagAt(bag);
        if (g == null || g.state != ABOARD) {
            return false;
        }
        Boat b = mooredBoat(g.boat);
        if (b == null) {
            return false;
        }
        b.pounds -= g.pounds;
        b.cargo &= ~(1 << bag);
        putAshore(g, b.stop);
        return true;
    }

    public int mail(int bag, int what) throws NoSuchElementException {
        Bag g = bagAt(bag);
        if (g == null) {
            throw new NoSuchElementException("no such bag");
        }
        int cause = what < 10 ? NONE : what - 10;
        if (within(cause, 0, CAUSES - 1)) {
            return g.lostMinutes[cause];
        }
        switch (what) {
            case 0: return g.state;
            case 1: return g.isOnLand() ? g.stop.number : NONE;
            case 2: return g.state == ABOARD ? g.boat : NONE;
            case 3: return g.state == DELIVERED ? g.late : NONE;
            default: throw new NoSuchElementException("no such question of a bag");
        }
    }

    public int of(int boat, int what) throws NoSuchElementException {
        Boat b = boatAt(boat);
        if (b == null) {
            throw new NoSuchElementException("no such boat");
        }
        switch (what) {
            case 0: return b.state;
            case 1: return b.stop.number;
            case 2: return b.fuel;
            case 3: return b.weight();
            case 4: return b.duty;
            case 5: return b.cause;
            case 6: return b.state == AIR ? b.air : 0;
            case 7: return b.state == AIR ? b.minutes : NONE;
            case 8: return b.isResting(now) ? 1 : 0;
            case 9: return b.broken ? 1 : 0;
            default: throw new NoSuchElementException("no such question of a boat");
        }
    }

    // ---- weights found false, ways, counts

    public boolean run(int lift, int weight) {
        if (!within(lift, 0, log.kept - 1) || !within(weight, 0, MAX_FOUND_WEIGHT)) {
            return false;
        }
        return log.find(lift, weight);
    }

    public int suspects() {
        return log.suspectBags();
    }

    public int way(int boat, int from, int to, int minute, int n, int what) {
        Boat b = boatAt(boat);
        Stop source = stopAt(from);
        Stop goal = stopAt(to);
        if (b == null || source == null || goal == null || from == to) {
            return NONE;
        }
        if (!within(minute, 0, LAST_MINUTE) || !within(n, 0, facts.told) || !Planner.answers(what)) {
            return NONE;
        }
        Planner planner = new Planner(legs, facts, n, b.hull, goal);
        planner.plan(source, minute);
        return planner.answer(what);
    }

    public int count(int what) {
        switch (what) {
            case 0: return now;
            case 1: return stops.size();
            case 2: return legs.size();
            case 3: return boats.size();
            case 4: return facts.told;
            case 5: return bags.size();
            case 6: return log.kept;
            case 7: return gallonsInTanks();
            case 8: return drumsInAll();
            case 9: return burntGallons;
            case 10: return spiltGallons;
            case 11: return deliveredBags;
            case 12: return tape.length;
            case 13: return inForce.lines;
            default: return NONE;
        }
    }

    public int free(int stop) {
        Stop place = stopAt(stop);
        return place == null ? NONE : place.freeBuoys();
    }

    // ---- who is asked for: null, if there is none such

    private Stop stopAt(int number) {
        return within(number, 0, stops.size() - 1) ? stops.get(number) : null;
    }

    private Leg legAt(int number) {
        return within(number, 0, legs.size() - 1) ? legs.get(number) : null;
    }

    private Boat boatAt(int number) {
        return within(number, 0, boats.size() - 1) ? boats.get(number) : null;
    }

    private Bag bagAt(int number) {
        return within(number, 0, bags.size() - 1) ? bags.get(number) : null;
    }

    private Boat mooredBoat(int number) {
        Boat b = boatAt(number);
        return b != null && b.state == MOORED ? b : null;
    }

    // ---- what holds now

    private int swellNow(Stop place) {
        return facts.swellAt(place, now / HOUR_MINUTES, facts.told);
    }

    private int windNow(Stop from, Leg way) {
        return facts.windFrom(from, way, now / DAY_MINUTES, facts.told);
    }

    private int firstBroken(Boat b, boolean landing) {
        Stop place = b.stop;
        wordValues[WORD_SWELL] = swellNow(place);
        wordValues[WORD_HOUR] = now / HOUR_MINUTES % 24;
        wordValues[WORD_LIGHT] = place.light ? 1 : 0;
        wordValues[WORD_FREE] = place.freeBuoys();
        wordValues[WORD_FUEL] = b.fuel;
        wordValues[WORD_WEIGHT] = b.weight();
        wordValues[WORD_DAY] = now / DAY_MINUTES;
        wordValues[WORD_BAGS] = Integer.bitCount(b.cargo);
        return inForce.firstBroken(landing, place.number, wordValues);
    }

    /** The cause for which a lift is refused, or NONE. */
    private int refusalOf(Boat b, int minutes) {
        if (firstBroken(b, false) != NONE) {
            return CAUSE_RULE;
        }
        if (b.hull.liftsFrom(swellNow(b.stop)) < b.weight()) {
            return CAUSE_WATER;
        }
        if (b.fuel < b.hull.burnt(minutes)) {
            return CAUSE_FUEL;
        }
        if (b.isResting(now) || b.duty + minutes > MAX_DUTY) {
            return CAUSE_CREW;
        }
        return b.broken ? CAUSE_BROKEN : NONE;
    }

    private int headsResting(Stop place) {
        int heads = 0;
        for (int i = 0; i < boats.size(); i++) {
            Boat b = boats.get(i);
            // a crew that rests cannot have lifted since, so its boat still lies where it rests
            if (b.stop == place && b.isResting(now)) {
                heads += b.hull.crew;
            }
        }
        return heads;
    }

    private int gallonsInTanks() {
        int gallons = 0;
        for (int i = 0; i < boats.size(); i++) {
            gallons += boats.get(i).fuel;
        }
        return gallons;
    }

    private int drumsInAll() {
        int drums = 0;
        for (int i = 0; i < stops.size(); i++) {
            drums += stops.get(i).drums;
        }
        return drums;
    }

    // ---- a minute goes by

    private void passMinute(Boat b) {
        if (b.state == MOORED) {
            charge(b, b.cause, 1);
        }
        if (b.state != AIR) {
            return;
        }
        b.duty++;
        b.air++;
        if (b.air < b.minutes) {
            return;
        }
        int gallons = b.hull.burnt(b.air);
        if (gallons > b.fuel) {
            sink(b);
        } else if (mayLand(b)) {
            land(b, gallons);
        } else {
            charge(b, CAUSE_HELD, 1);
        }
    }

    private boolean mayLand(Boat b) {
        return b.stop.freeBuoys() > 0
            && (b.stop.light || !isNight(now))
            && swellNow(b.stop) <= LANDING_SWELL
            && firstBroken(b, true) == NONE;
    }

    private void land(Boat b, int gallons) {
        burntGallons += gallons;
        b.fuel -= gallons;
        b.state = MOORED;
        b.stop.moored++;
    }

    private void sink(Boat b) {
        burntGallons += b.fuel;
        b.fuel = 0;
        b.state = SUNK;
        for (int i = 0; i < bags.size(); i++) {
            if (b.carries(i)) {
                bags.get(i).state = LOST;
            }
        }
        b.cargo = 0;
        b.pounds = 0;
    }

    /** Minutes lost by a cause, for each bag aboard; without a cause nothing is lost. */
    private void charge(Boat b, int cause, int minutes) {
        if (b.cargo == 0 || !within(cause, 0, CAUSES - 1)) {
            return;
        }
        for (int i = 0; i < bags.size(); i++) {
            if (b.carries(i)) {
                bags.get(i).lostMinutes[cause] += minutes;
            }
        }
    }

    private void putAshore(Bag g, Stop place) {
        g.stop = place;
        if (place != g.goal) {
            g.state = ASHORE;
            return;
        }
        g.state = DELIVERED;
        g.late = Math.max(0, now - g.due);
        deliveredBags++;
    }

    // ---- plain reckoning

    private static boolean within(int v, int least, int most) {
        return v >= least && v <= most;
    }

    private static int dividedUp(int v, int by) {
        return by < 1 ? 0 : (v + by - 1) / by;
    }

    private static int minutesBack(int minutes, int ground, int groundBack) {
        return dividedUp(minutes * ground, groundBack);
    }

    private static boolean isNight(int minute) {
        int hour = minute / HOUR_MINUTES % 24;
        return hour < 6 || hour >= 18;
    }

    private static final class Stop {
        final int number;
        final int buoys;
        final int beds;
        final boolean light;
        int drums;
        int moored;

        Stop(int number, int buoys, int beds, boolean light) {
            this.number = number;
            this.buoys = buoys;
            this.beds = beds;
            this.light = light;
        }

        int freeBuoys() {
            return buoys - moored;
        }
    }

    private static final class Leg {
        final int number;
        final Stop first;
        final Stop second;
        final int miles;

        Leg(int number, Stop first, Stop second, int miles) {
            this.number = number;
            this.first = first;
            this.second = second;
            this.miles = miles;
        }

        boolean touches(Stop place) {
            return place == first || place == second;
        }

        Stop otherEnd(Stop place) {
            return place == first ? second : first;
        }

        int minutesAt(int ground) {
            return dividedUp(miles * HOUR_MINUTES, ground);
        }
    }

    /** What a boat is built as; it never changes. */
    private static final class Hull {
        private static final int LEAST_GROUND = 20;
        private static final int BEST_SWELL = 2;
        private static final int LIFT_PARTS = 25;

        final int empty;
        final int power;
        final int speed;
        final int burn;
        final int tank;
        final int hold;
        final int crew;

        Hull(int empty, int power, int speed, int burn, int tank, int hold, int crew) {
            this.empty = empty;
            this.power = power;
            this.speed = speed;
            this.burn = burn;
            this.tank = tank;
            this.hold = hold;
            this.crew = crew;
        }

        boolean isAsTold() {
            return within(empty, 1000, 40000) && within(power, 1000, 90000) && within(speed, 60, 200)
                && within(burn, 10, 300) && within(tank, 50, 3000) && within(hold, 0, 20000)
                && within(crew, 2, 9);
        }

        int ground(int wind) {
            return Math.max(LEAST_GROUND, speed + wind);
        }

        int burnt(int minutes) {
            return dividedUp(burn * minutes, HOUR_MINUTES);
        }

        int liftsFrom(int swell) {
            if (swell > LIFTING_SWELL) {
                return 0;
            }
            return power - power / LIFT_PARTS * Math.abs(swell - BEST_SWELL);
        }
    }

    private static final class Boat {
        final int number;
        final Hull hull;
        int state = MOORED;
        /** Where it is; in the air, where it goes. */
        Stop stop;
        Stop liftedFrom;
        int fuel;
        int cargo;
        int pounds;
        int duty;
        int cause = NONE;
        int restEnd;
        boolean broken;
        int air;
        int minutes;
        int ground;
        int groundBack;
        boolean turned;

        Boat(int number, Hull hull, Stop stop) {
            this.number = number;
            this.hull = hull;
            this.stop = stop;
            this.liftedFrom = stop;
        }

        int weight() {
            return hull.empty + GALLON_POUNDS * fuel + pounds;
        }

        boolean isResting(int now) {
            return now < restEnd;
        }

        boolean carries(int bag) {
            return within(bag, 0, MAX_BAGS - 1) && (cargo >> bag & 1) == 1;
        }

        /** The wind of the lift is kept for a turn: the point past which none turns back is then fixed. */
        void leave(Leg way, int wind) {
            state = AIR;
            cause = NONE;
            liftedFrom = stop;
            stop = way.otherEnd(stop);
            ground = hull.ground(wind);
            groundBack = hull.ground(-wind);
            minutes = way.minutesAt(ground);
            air = 0;
            turned = false;
        }

        boolean mayTurn() {
            return state == AIR && !turned && air >= 1 && air < minutes;
        }

        void turnBack(int minutesInAll) {
            stop = liftedFrom;
            minutes = minutesInAll;
            turned = true;
        }
    }

    private static final class Bag {
        final Stop goal;
        final int pounds;
        final int due;
        final int[] lostMinutes = new int[CAUSES];
        int state = ASHORE;
        Stop stop;
        int boat = NONE;
        int late;

        Bag(Stop source, Stop goal, int pounds, int due) {
            this.stop = source;
            this.goal = goal;
            this.pounds = pounds;
            this.due = due;
        }

        boolean isOnLand() {
            return state == ASHORE || state == DELIVERED;
        }
    }

    /** Facts of swell and wind: those of one stop or leg hang together, the latest time first, of one time the last told. */
    private static final class Facts {
        private static final int SIZE = 160;
        private static final int SUBJECTS = MAX_STOPS + MAX_LEGS;
        private static final int SWELL_WITHOUT = 3;
        private static final int WIND_WITHOUT = 0;

        final int[] times = new int[SIZE];
        final int[] values = new int[SIZE];
        final int[] followers = new int[SIZE];
        final int[] heads = new int[SUBJECTS];
        int told;

        Facts() {
            for (int i = 0; i < SUBJECTS; i++) {
                heads[i] = NONE;
            }
        }

        int tell(int subject, int time, int value) {
            if (told >= SIZE || !within(subject, 0, SUBJECTS - 1)) {
                return NONE;
            }
            int before = NONE;
            int at = heads[subject];
            for (int step = 0; step < told && at >= 0 && at < told && times[at] > time; step++) {
                before = at;
                at = followers[at];
            }
            times[told] = time;
            values[told] = value;
            followers[told] = at;
            if (before == NONE) {
                heads[subject] = told;
            } else {
                followers[before] = told;
            }
            told++;
            return told - 1;
        }

        int swellAt(Stop place, int hour, int n) {
            return known(place.number, hour, n, SWELL_WITHOUT);
        }

        int windFrom(Stop from, Leg way, int day, int n) {
            int wind = known(MAX_STOPS + way.number, day, n, WIND_WITHOUT);
            return from == way.first ? wind : -wind;
        }

        private int known(int subject, int time, int n, int without) {
            if (subject < 0 || subject >= SUBJECTS) {
                return without;
            }
            int at = heads[subject];
            for (int step = 0; step < told && at >= 0 && at < told; step++) {
                if (at < n && times[at] <= time) {
                    return values[at];
                }
                at = followers[at];
            }
            return without;
        }
    }

    /** The bytes that are fed, and the tokens in them. */
    private static final class Tape {
        static final int SIZE = 300;
        static final int FED = 20;
        static final int END = 0;
        static final int WORD = 1;
        static final int NUMBER = 2;
        static final int SIGN = 3;
        static final int NO_TOKEN = 4;
        private static final int MAX_DIGITS = 5;

        final byte[] bytes = new byte[SIZE];
        int length;
        int kind;
        int start;
        int behind;
        int number;

        /** Four bytes come behind, the highest first. */
        void append(int four) {
            for (int shift = 24; shift >= 0 && length < SIZE; shift -= 8) {
                bytes[length] = (byte) (four >> shift);
                length++;
            }
        }

        void rewind() {
            behind = 0;
            readToken();
        }

        void readToken() {
            start = behind;
            while (start < length && isBlank(byteAt(start))) {
                start++;
            }
            behind = start;
            int c = byteAt(start);
            if (c == NONE) {
                kind = END;
            } else if (isLetter(c)) {
                readWord();
            } else if (isDigit(c)) {
                readNumber();
            } else {
                behind++;
                kind = c == '<' || c == '=' || c == '>' || c == ';' ? SIGN : NO_TOKEN;
            }
        }

        private void readWord() {
            kind = WORD;
            while (behind < length && isLetter(byteAt(behind))) {
                behind++;
            }
        }

        private void readNumber() {
            number = 0;
            while (behind < length && isDigit(byteAt(behind))) {
                if (behind - start < MAX_DIGITS) {
                    number = number * 10 + byteAt(behind) - '0';
                }
                behind++;
            }
            kind = behind - start > MAX_DIGITS ? NO_TOKEN : NUMBER;
        }

        boolean isWord(String word) {
            if (kind != WORD || behind - start != word.length()) {
                return false;
            }
            for (int i = 0; i < word.length(); i++) {
                if (byteAt(start + i) != word.charAt(i)) {
                    return false;
                }
            }
            return true;
        }

        /** The sign that is read, or NONE. */
        int sign() {
            return kind == SIGN ? byteAt(start) : NONE;
        }

        private int byteAt(int place) {
            return place >= 0 && place < length && place < SIZE ? bytes[place] & 255 : NONE;
        }

        private static boolean isBlank(int c) {
            return c == 32 || c == 10;
        }

        private static boolean isLetter(int c) {
            return c >= 'a' && c <= 'z';
        }

        private static boolean isDigit(int c) {
            return c >= '0' && c <= '9';
        }
    }

    /** Lines of port rules, as they are read from a tape. */
    private static final class Rules {
        private static final int MAX_LINES = 16;
        private static final int MAX_TERMS = 6;
        private static final int FAULT_PLACE = 1;
        private static final int FAULT_LINE = 2;
        private static final int FAULT_TERM = 3;
        private static final int FAULT_STOP = 4;

        final boolean[] ofLanding = new boolean[MAX_LINES];
        final int[] atStop = new int[MAX_LINES];
        final int[] termCounts = new int[MAX_LINES];
        final boolean[] negated = new boolean[MAX_LINES * MAX_TERMS];
        final int[] words = new int[MAX_LINES * MAX_TERMS];
        final int[] signs = new int[MAX_LINES * MAX_TERMS];
        final int[] numbers = new int[MAX_LINES * MAX_TERMS];
        int lines;

        /** 0, or the first fault: its kind and 10 times its place. */
        int read(Tape tape) {
            lines = 0;
            tape.rewind();
            for (int i = 0; i <= MAX_LINES && tape.kind != Tape.END; i++) {
                int fault = readHead(tape);
                if (fault == 0) {
                    fault = readTerms(tape);
                }
                if (fault == 0) {
                    fault = readClose(tape);
                }
                if (fault != 0) {
                    return fault + 10 * tape.start;
                }
                lines++;
            }
            return 0;
        }

        private int readHead(Tape tape) {
            boolean landing = tape.isWord("land");
            if (!landing && !tape.isWord("lift")) {
                return FAULT_PLACE;
            }
            if (lines >= MAX_LINES) {
                return FAULT_LINE;
            }
            ofLanding[lines] = landing;
            atStop[lines] = NONE;
            termCounts[lines] = 0;
            tape.readToken();
            if (!tape.isWord("at")) {
                return 0;
            }
            tape.readToken();
            if (tape.kind != Tape.NUMBER) {
                return FAULT_PLACE;
            }
            if (tape.number >= MAX_STOPS) {
                return FAULT_STOP;
            }
            atStop[lines] = tape.number;
            tape.readToken();
            return 0;
        }

        private static int readClose(Tape tape) {
            if (tape.sign() != ';') {
                return FAULT_PLACE;
            }
            tape.readToken();
            return 0;
        }

        private int readTerms(Tape tape) {
            if (!tape.isWord("if")) {
                return FAULT_PLACE;
            }
            for (int i = 0; i <= MAX_TERMS; i++) {
                tape.readToken();
                int fault = readTerm(tape);
                if (fault != 0) {
                    return fault;
                }
                if (!tape.isWord("and")) {
                    return 0;
                }
            }
            return FAULT_TERM;
        }

        private int readTerm(Tape tape) {
            boolean not = tape.isWord("not");
            if (!not && wordOf(tape) == NONE) {
                return FAULT_PLACE;
            }
            if (termCounts[lines] >= MAX_TERMS) {
                return FAULT_TERM;
            }
            if (not) {
                tape.readToken();
            }
            int term = lines * MAX_TERMS + termCounts[lines];
            negated[term] = not;
            words[term] = wordOf(tape);
            if (words[term] == NONE) {
                return FAULT_PLACE;
            }
            tape.readToken();
            signs[term] = tape.sign();
            if (signs[term] == NONE || signs[term] == ';') {
                return FAULT_PLACE;
            }
            tape.readToken();
            if (tape.kind != Tape.NUMBER) {
                return FAULT_PLACE;
            }
            numbers[term] = tape.number;
            termCounts[lines]++;
            tape.readToken();
            return 0;
        }

        private static int wordOf(Tape tape) {
            if (tape.isWord("swell")) {
                return WORD_SWELL;
            }
            if (tape.isWord("hour")) {
                return WORD_HOUR;
            }
            if (tape.isWord("light")) {
                return WORD_LIGHT;
            }
            if (tape.isWord("free")) {
                return WORD_FREE;
            }
            if (tape.isWord("fuel")) {
                return WORD_FUEL;
            }
            if (tape.isWord("weight")) {
                return WORD_WEIGHT;
            }
            if (tape.isWord("day")) {
                return WORD_DAY;
            }
            return tape.isWord("bags") ? WORD_BAGS : NONE;
        }

        /** The first line that is not so at a stop, with what its words are worth there; NONE, if all are. */
        int firstBroken(boolean landing, int stop, int[] wordValues) {
            for (int i = 0; i < lines && i < MAX_LINES; i++) {
                boolean counts = ofLanding[i] == landing && (atStop[i] == NONE || atStop[i] == stop);
                if (counts && !isSo(i, wordValues)) {
                    return i;
                }
            }
            return NONE;
        }

        private boolean isSo(int line, int[] wordValues) {
            for (int i = 0; i < termCounts[line] && i < MAX_TERMS; i++) {
                int term = line * MAX_TERMS + i;
                int word = words[term];
                if (!within(word, 0, wordValues.length - 1)) {
                    return false;
                }
                if (compares(wordValues[word], signs[term], numbers[term]) == negated[term]) {
                    return false;
                }
            }
            return true;
        }

        private static boolean compares(int value, int sign, int number) {
            if (sign == '<') {
                return value < number;
            }
            return sign == '>' ? value > number : value == number;
        }
    }

    /** The first lifts, what each was told to weigh and what its run found. */
    private static final class LiftLog {
        private static final int SIZE = 200;
        private static final int EXCESS_POUNDS = 100;

        final int[] weights = new int[SIZE];
        final int[] cargoes = new int[SIZE];
        final int[] found = new int[SIZE];
        int kept;

        void note(int weight, int cargo) {
            if (kept >= SIZE) {
                return;
            }
            weights[kept] = weight;
            cargoes[kept] = cargo;
            found[kept] = NONE;
            kept++;
        }

        boolean find(int lift, int weight) {
            if (!within(lift, 0, kept - 1)) {
                return false;
            }
            found[lift] = weight;
            return isExcess(lift);
        }

        int suspectBags() {
            int inEach = -1;
            int cleared = 0;
            boolean anyExcess = false;
            for (int i = 0; i < kept && i < SIZE; i++) {
                if (found[i] != NONE && isExcess(i)) {
                    anyExcess = true;
                    inEach &= cargoes[i];
                } else if (found[i] != NONE) {
                    cleared |= cargoes[i];
                }
            }
            return anyExcess ? inEach & ~cleared : 0;
        }

        private boolean isExcess(int lift) {
            return found[lift] >= weights[lift] + EXCESS_POUNDS;
        }
    }

    /** Looks for the best way of a hull to a goal, as known by the first facts. */
    private static final class Planner {
        private static final int MAX_WAY = 5;
        private static final int HOURS_WAITED = 24;
        private static final int FIRST_LEG_ASKED = 10;

        final List<Leg> legs;
        final Facts facts;
        final int known;
        final Hull hull;
        final Stop goal;
        final int[] path = new int[MAX_WAY];
        final int[] bestPath = new int[MAX_WAY];
        int bestLength;
        int bestMinute = LAST_MINUTE + 1;

        Planner(List<Leg> legs, Facts facts, int known, Hull hull, Stop goal) {
            this.legs = legs;
            this.facts = facts;
            this.known = known;
            this.hull = hull;
            this.goal = goal;
        }

        static boolean answers(int what) {
            return what == 0 || what == 1 || within(what, FIRST_LEG_ASKED, FIRST_LEG_ASKED + MAX_WAY - 1);
        }

        int answer(int what) {
            if (bestMinute > LAST_MINUTE) {
                return NONE;
            }
            if (what == 0) {
                return bestMinute;
            }
            if (what == 1) {
                return bestLength;
            }
            int asked = what < FIRST_LEG_ASKED ? NONE : what - FIRST_LEG_ASKED;
            return within(asked, 0, bestLength - 1) && asked < MAX_WAY ? bestPath[asked] : NONE;
        }

        void plan(Stop from, int minute) {
            search(0, from, minute, hull.tank, 1 << from.number);
        }

        /** Legs are tried by their numbers, so of ways that come as early the first found is the one that counts. */
        private void search(int depth, Stop at, int minute, int fuel, int visited) {
            if (depth >= MAX_WAY) {
                return;
            }
            for (int i = 0; i < legs.size(); i++) {
                Leg way = legs.get(i);
                Stop next = way.otherEnd(at);
                if (!way.touches(at) || (visited >> next.number & 1) == 1) {
                    continue;
                }
                if (next != goal && depth == MAX_WAY - 1) {
                    continue;
                }
                int start = departure(way, at, minute);
                int minutes = start == NONE ? 0 : minutesFrom(way, at, start);
                int left = fuel - hull.burnt(minutes);
                if (start == NONE || left < 0) {
                    continue;
                }
                path[depth] = i;
                if (next == goal) {
                    keepIfEarlier(depth + 1, start + minutes);
                } else {
                    search(depth + 1, next, start + minutes, next.drums > 0 ? hull.tank : left,
                        visited | 1 << next.number);
                }
            }
        }

        /** When it goes on from a stop; NONE, if it never can, or not early enough to be better than the best. */
        private int departure(Leg way, Stop at, int minute) {
            Stop next = way.otherEnd(at);
            for (int i = 0; i <= HOURS_WAITED; i++) {
                int start = i == 0 ? minute : (minute / HOUR_MINUTES + i) * HOUR_MINUTES;
                if (start >= bestMinute || start > LAST_MINUTE) {
                    return NONE;
                }
                if (facts.swellAt(at, start / HOUR_MINUTES, known) > LIFTING_SWELL) {
                    continue;
                }
                int coming = start + minutesFrom(way, at, start);
                if (coming <= LAST_MINUTE && (next.light || !isNight(coming))) {
                    return start;
                }
            }
            return NONE;
        }

        private int minutesFrom(Leg way, Stop at, int start) {
            return way.minutesAt(hull.ground(facts.windFrom(at, way, start / DAY_MINUTES, known)));
        }

        private void keepIfEarlier(int length, int minute) {
            if (minute >= bestMinute) {
                return;
            }
            bestMinute = minute;
            bestLength = length;
            System.arraycopy(path, 0, bestPath, 0, MAX_WAY);
        }
    }
}
