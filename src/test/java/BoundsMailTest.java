/** Promises 22 to 28 at the boundaries that the document names: bags, what is asked of bags and boats, runs, suspects. */
public final class BoundsMailTest {
    private static final Check c = new Check("BoundsMailTest");
    private static final Bounds b = new Bounds(c);
    private static final int NONE = HullLine.NONE;
    private static final int ASHORE = 0;
    private static final int ABOARD = 1;
    private static final int DELIVERED = 2;
    private static final int LOST = 3;

    public static void main(String[] args) {
        p22TwoStops();
        p22Weight();
        p22Due();
        p22ThereAreThirty();
        p22NothingHappens();
        p23NoSuchOnes();
        p23NotThere();
        p23HoldToThePound();
        p23NoHold();
        p23ThirtyAboard();
        p23NothingHappens();
        p24NoneSuch();
        p24AshoreAndDelivered();
        p24NothingHappens();
        p25NoSuchOnes();
        p25EachState();
        p25Late();
        p25LostMinutesStay();
        p25NothingHappens();
        p26NoSuchOnes();
        p26EachState();
        p26NothingHappens();
        p27NoSuchLift();
        p27NoSuchWeight();
        p27ExcessToThePound();
        p27WeightAsItLifted();
        p27TheLastOneFoundCounts();
        p27TwoHundredAreKept();
        p27NothingHappens();
        p28NoneFound();
        p28Bits();
        p28InEachWithExcess();
        p28InNoneWithout();
        p28NoBagsAboard();
        p28TheLastLiftKept();
        p28AsksAlone();
        c.finish();
    }

    // ---- 22

    private static void p22TwoStops() {
        c.promise("22 bag: no such two STOPS");
        b.range("from", 0, 11, 0, NONE, v -> Bounds.line(12).bag(v, v == 0 ? 1 : 0, 10, 0));
        b.range("to", 0, 11, 0, NONE, v -> Bounds.line(12).bag(v == 0 ? 1 : 0, v, 10, 0));
        b.outside("from, of two", 0, 1, NONE, v -> Bounds.line(2).bag(v, 0, 10, 0));
        b.outside("to, of two", 0, 1, NONE, v -> Bounds.line(2).bag(0, v, 10, 0));
        HullLine x = Bounds.line(12);
        for (int i = 0; i < 12; i++) {
            c.eq("from " + i + " to itself", x.bag(i, i, 10, 0), NONE);
        }
        c.eq("bags", x.count(5), 0);
    }

    private static void p22Weight() {
        c.promise("22 bag: told to weigh 1 .. 2000 pounds");
        b.range("pounds", 1, 2000, 0, NONE, v -> Bounds.line(2).bag(0, 1, v, 0));
    }

    private static void p22Due() {
        c.promise("22 bag: no such MINUTE");
        b.range("due", 0, 143999, 0, NONE, v -> Bounds.line(2).bag(0, 1, 10, v));
        HullLine x = Bounds.line(2);
        x.go(100);
        c.eq("a minute that is over", x.bag(0, 1, 10, 0), 0);
    }

    private static void p22ThereAreThirty() {
        c.promise("22 bag: there are 30");
        HullLine x = Bounds.line(2);
        for (int i = 0; i < 30; i++) {
            c.eq("bag", x.bag(i % 2, 1 - i % 2, 10, 0), i);
        }
        c.eq("a 31st", x.bag(0, 1, 10, 0), NONE);
        c.eq("bags", x.count(5), 30);
        c.eq("bag 29", x.mail(29, 1), 1);
        c.noMail(x, 30, 0);
        HullLine y = delivered(30);
        c.eq("delivered ones are of the 30", y.bag(0, 1, 10, 0), NONE);
    }

    /** A boat that brought so many bags to stop 1 by minute 60. */
    private static HullLine delivered(int bags) {
        HullLine x = Bounds.pairAnd(new Kind());
        for (int i = 0; i < bags; i++) {
            x.bag(0, 1, 10, 0);
            x.load(i, 0);
        }
        x.lift(0, 0);
        x.go(60);
        for (int i = 0; i < bags; i++) {
            x.unload(i);
        }
        c.eq("delivered", x.count(11), bags);
        return x;
    }

    private static void p22NothingHappens() {
        c.promise("22 bag: NONE");
        b.nothing("0 pounds", Bounds::busy, x -> x.bag(0, 1, 0, 10), NONE);
        b.nothing("2001 pounds", Bounds::busy, x -> x.bag(0, 1, 2001, 10), NONE);
        b.nothing("due -1", Bounds::busy, x -> x.bag(0, 1, 10, -1), NONE);
        b.nothing("due 144000", Bounds::busy, x -> x.bag(0, 1, 10, 144000), NONE);
        b.nothing("to itself", Bounds::busy, x -> x.bag(1, 1, 10, 10), NONE);
        b.nothing("no such stop", Bounds::busy, x -> x.bag(0, 3, 10, 10), NONE);
        b.nothing("a 31st", x -> {
            Bounds.busy(x);
            for (int i = 6; i < 30; i++) {
                x.bag(0, 1, 10, 10);
            }
        }, x -> x.bag(0, 1, 10, 10), NONE);
        HullLine x = Bounds.line(2);
        x.bag(0, 0, 10, 0);
        x.bag(0, 1, 0, 0);
        c.eq("no number is used up", x.bag(0, 1, 1, 0), 0);
    }

    // ---- 23

    private static HullLine withBag(int pounds, int hold) {
        HullLine x = Bounds.pair(120);
        new Kind().hold(hold).at(x, 0);
        x.bag(0, 1, pounds, 0);
        return x;
    }

    private static void p23NoSuchOnes() {
        c.promise("23 load: it can't: no such BAG, BOAT");
        b.range("bag", 0, 0, 1, 0, v -> Bounds.bit(withBag(10, 10).load(v, 0)));
        b.range("boat", 0, 0, 1, 0, v -> Bounds.bit(withBag(10, 10).load(0, v)));
    }

    private static void p23NotThere() {
        c.promise("23 load: it can't: a BAG ashore, a BOAT MOORED there");
        HullLine x = new HullLine();
        Bounds.busy(x);
        c.no("it is aboard this one", x.load(Bounds.BAG_WAITING, Bounds.WAITS));
        c.no("it is aboard one in the air", x.load(Bounds.BAG_FLYING, Bounds.WAITS));
        c.no("it is delivered, where a boat is moored", x.load(Bounds.BAG_DELIVERED, Bounds.RESTS));
        c.no("it is lost, where a boat is moored", x.load(Bounds.BAG_LOST, Bounds.IN_THE_WAY));
        c.no("the boat is at another stop", x.load(Bounds.BAG_ASHORE, Bounds.RESTS));
        c.no("the boat is in the air", x.load(Bounds.BAG_ASHORE, Bounds.FLIES));
        c.no("the boat is in the air to its stop", x.load(5, Bounds.FLIES));
        c.no("the boat is sunk", x.load(Bounds.BAG_ASHORE, Bounds.SANK));
        c.yes("a broken one whose crew rests", x.load(5, Bounds.RESTS));
        c.yes("moored there", x.load(Bounds.BAG_ASHORE, Bounds.WAITS));
        c.eq("aboard", x.mail(Bounds.BAG_ASHORE, 0), ABOARD);
    }

    private static void p23HoldToThePound() {
        c.promise("23 load: HOLD is too small for all that its BAGS are told to weigh");
        c.yes("99 of 100", withBag(99, 100).load(0, 0));
        c.yes("100 of 100", withBag(100, 100).load(0, 0));
        c.no("101 of 100", withBag(101, 100).load(0, 0));
        c.yes("2000 of 20000", withBag(2000, 20000).load(0, 0));
        HullLine x = withBag(60, 100);
        x.bag(0, 1, 41, 0);
        x.bag(0, 1, 40, 0);
        x.bag(0, 1, 1, 0);
        c.yes("60", x.load(0, 0));
        c.no("101", x.load(1, 0));
        c.yes("100", x.load(2, 0));
        c.no("101", x.load(3, 0));
        c.yes("60 out", x.unload(0));
        c.yes("81", x.load(1, 0));
        c.yes("82", x.load(3, 0));
        c.no("142", x.load(0, 0));
        c.eq("weight", x.of(0, 3), 10082);
        HullLine y = Bounds.pair(120);
        new Kind().hold(20000).at(y, 0);
        for (int i = 0; i < 11; i++) {
            y.bag(0, 1, 2000, 0);
            c.eq("bag " + i + " of 2000", Bounds.bit(y.load(i, 0)), i < 10 ? 1 : 0);
        }
    }

    private static void p23NoHold() {
        c.promise("23 load: a HOLD of 0");
        c.no("1 of 0", withBag(1, 0).load(0, 0));
        c.yes("1 of 1", withBag(1, 1).load(0, 0));
    }

    private static void p23ThirtyAboard() {
        c.promise("23 load: all 30 BAGS");
        HullLine x = Bounds.pairAnd(new Kind().hold(30));
        for (int i = 0; i < 30; i++) {
            x.bag(0, 1, 1, 0);
            c.yes("bag " + i, x.load(i, 0));
        }
        c.eq("weight", x.of(0, 3), 16030);
        for (int i = 0; i < 30; i++) {
            c.eq("bag " + i, x.mail(i, 2), 0);
        }
        x.breaks(0, true);
        x.lift(0, 0);
        x.go(3);
        for (int i = 0; i < 30; i++) {
            c.eq("bag " + i + " loses", x.mail(i, 14), 3);
        }
        for (int i = 0; i < 30; i++) {
            c.yes("bag " + i + " out", x.unload(i));
        }
        c.eq("weight", x.of(0, 3), 16000);
    }

    private static void p23NothingHappens() {
        c.promise("23 load: false");
        b.nothing("no such bag", Bounds::busy, x -> Bounds.bit(x.load(6, Bounds.WAITS)), 0);
        b.nothing("no such bag", Bounds::busy, x -> Bounds.bit(x.load(-1, Bounds.WAITS)), 0);
        b.nothing("no such boat", Bounds::busy, x -> Bounds.bit(x.load(Bounds.BAG_ASHORE, 5)), 0);
        b.nothing("no such boat", Bounds::busy, x -> Bounds.bit(x.load(Bounds.BAG_ASHORE, -1)), 0);
        b.nothing("aboard", Bounds::busy, x -> Bounds.bit(x.load(Bounds.BAG_WAITING, Bounds.WAITS)), 0);
        b.nothing("delivered", Bounds::busy, x -> Bounds.bit(x.load(Bounds.BAG_DELIVERED, Bounds.RESTS)), 0);
        b.nothing("lost", Bounds::busy, x -> Bounds.bit(x.load(Bounds.BAG_LOST, Bounds.IN_THE_WAY)), 0);
        b.nothing("in the air", Bounds::busy, x -> Bounds.bit(x.load(Bounds.BAG_ASHORE, Bounds.FLIES)), 0);
        b.nothing("at another stop", Bounds::busy, x -> Bounds.bit(x.load(Bounds.BAG_ASHORE, Bounds.RESTS)), 0);
        b.nothing("too heavy", x -> {
            Bounds.busy(x);
            x.bag(0, 1, 1400, 900);
            x.bag(0, 1, 1401, 900);
            x.load(6, Bounds.WAITS);
        }, x -> Bounds.bit(x.load(7, Bounds.WAITS)), 0);
    }

    // ---- 24

    private static void p24NoneSuch() {
        c.promise("24 unload: false: it is none such");
        b.range("bag", 0, 0, 1, 0, v -> {
            HullLine x = withBag(10, 10);
            x.load(0, 0);
            return Bounds.bit(x.unload(v));
        });
        HullLine x = new HullLine();
        Bounds.busy(x);
        c.no("ashore", x.unload(Bounds.BAG_ASHORE));
        c.no("delivered", x.unload(Bounds.BAG_DELIVERED));
        c.no("lost", x.unload(Bounds.BAG_LOST));
        c.no("in the air", x.unload(Bounds.BAG_FLYING));
        c.yes("aboard one that is moored", x.unload(Bounds.BAG_WAITING));
        c.no("ashore then", x.unload(Bounds.BAG_WAITING));
    }

    private static void p24AshoreAndDelivered() {
        c.promise("24 unload: DELIVERED: put ashore at its own STOP");
        HullLine x = Bounds.pairAnd(new Kind());
        x.stop(1, 0, true);
        x.bag(0, 1, 10, 60);
        x.bag(0, 2, 20, 60);
        x.load(0, 0);
        x.load(1, 0);
        c.yes("where it is from", x.unload(0));
        c.eq("ashore", x.mail(0, 0), ASHORE);
        c.eq("ashore at", x.mail(0, 1), 0);
        c.eq("delivered", x.count(11), 0);
        c.yes("again", x.load(0, 0));
        x.lift(0, 0);
        x.go(60);
        c.yes("at its own stop", x.unload(0));
        c.eq("delivered", x.mail(0, 0), DELIVERED);
        c.eq("delivered at", x.mail(0, 1), 1);
        c.eq("delivered", x.count(11), 1);
        c.yes("at another stop", x.unload(1));
        c.eq("ashore", x.mail(1, 0), ASHORE);
        c.eq("ashore at", x.mail(1, 1), 1);
        c.eq("delivered", x.count(11), 1);
        c.yes("goes on", x.load(1, 0));
    }

    private static void p24NothingHappens() {
        c.promise("24 unload: false");
        b.nothing("no such bag", Bounds::busy, x -> Bounds.bit(x.unload(6)), 0);
        b.nothing("no such bag", Bounds::busy, x -> Bounds.bit(x.unload(-1)), 0);
        b.nothing("ashore", Bounds::busy, x -> Bounds.bit(x.unload(Bounds.BAG_ASHORE)), 0);
        b.nothing("delivered", Bounds::busy, x -> Bounds.bit(x.unload(Bounds.BAG_DELIVERED)), 0);
        b.nothing("lost", Bounds::busy, x -> Bounds.bit(x.unload(Bounds.BAG_LOST)), 0);
        b.nothing("in the air", Bounds::busy, x -> Bounds.bit(x.unload(Bounds.BAG_FLYING)), 0);
    }

    // ---- 25

    private static void p25NoSuchOnes() {
        c.promise("25 mail: NoSuchElementException: no such ones");
        b.range("bag", 0, 0, ASHORE, Bounds.THROWN, v -> Bounds.mail(withBag(10, 10), v, 0));
        b.range("bag of 30", 0, 29, ASHORE, Bounds.THROWN, v -> {
            HullLine x = Bounds.line(2);
            for (int i = 0; i < 30; i++) {
                x.bag(0, 1, 10, 0);
            }
            return Bounds.mail(x, v, 0);
        });
        b.outside("what", 0, 16, Bounds.THROWN, v -> Bounds.mail(withBag(10, 10), 0, v));
        for (int what = -1; what <= 18; what++) {
            boolean is = what >= 0 && what <= 3 || what >= 10 && what <= 16;
            c.eq("what " + what, Bounds.bit(Bounds.mail(withBag(10, 10), 0, what) == Bounds.THROWN), is ? 0 : 1);
        }
        c.noMail(Bounds.line(2), 0, 0);
        c.noMail(new HullLine(), 0, 16);
        c.noMail(withBag(10, 10), 1, 10);
        c.noMail(withBag(10, 10), -1, 3);
    }

    private static void p25EachState() {
        c.promise("25 mail: state, STOP (NONE), BOAT (NONE), LATE (NONE)");
        HullLine x = new HullLine();
        Bounds.busy(x);
        int[][] due = {{ASHORE, 0, NONE, NONE}, {ABOARD, NONE, Bounds.WAITS, NONE}, {DELIVERED, 1, NONE, 18},
            {LOST, NONE, NONE, NONE}, {ABOARD, NONE, Bounds.FLIES, NONE}, {ASHORE, 1, NONE, NONE}};
        for (int i = 0; i < due.length; i++) {
            for (int k = 0; k < 4; k++) {
                c.eq("mail(" + i + ", " + k + ")", x.mail(i, k), due[i][k]);
            }
        }
    }

    private static int late(int due, int minute) {
        HullLine x = Bounds.pairAnd(new Kind());
        x.bag(0, 1, 10, due);
        x.load(0, 0);
        x.lift(0, 0);
        Bounds.goTo(x, minute);
        x.unload(0);
        int late = x.mail(0, 3);
        x.go(1);
        c.eq("late stays", x.mail(0, 3), late);
        return late;
    }

    private static void p25Late() {
        c.promise("25 mail: LATE: MINUTES behind DUE as it was DELIVERED; 0 in time");
        c.eq("a minute ahead of due", late(61, 60), 0);
        c.eq("as it is due", late(60, 60), 0);
        c.eq("a minute behind", late(59, 60), 1);
        c.eq("due in 0", late(0, 60), 60);
        c.eq("due in the last minute", late(143999, 60), 0);
        c.eq("delivered in the last minute but one, due in it", late(143998, 143998), 0);
        c.eq("delivered in the last minute but one, due in 0", late(0, 143998), 143998);
    }

    private static void p25LostMinutesStay() {
        c.promise("25 mail: LOST MINUTES by CAUSE");
        HullLine x = new HullLine();
        Bounds.busy(x);
        c.eq("of the waiting bag, fuel", x.mail(Bounds.BAG_WAITING, 12), 10);
        c.eq("of the lost bag, held", x.mail(Bounds.BAG_LOST, 16), 21);
        x.unload(Bounds.BAG_WAITING);
        x.go(100);
        c.eq("ashore none more", x.mail(Bounds.BAG_WAITING, 12), 10);
        c.eq("lost none more", x.mail(Bounds.BAG_LOST, 16), 21);
        for (int i = 10; i <= 16; i++) {
            c.eq("of the delivered bag, " + i, x.mail(Bounds.BAG_DELIVERED, i), 0);
            c.eq("of the bag ashore, " + i, x.mail(Bounds.BAG_ASHORE, i), 0);
        }
    }

    private static void p25NothingHappens() {
        c.promise("25 mail: it asks alone");
        b.nothing("no such bag", Bounds::busy, x -> Bounds.mail(x, 6, 0), Bounds.THROWN);
        b.nothing("no such bag", Bounds::busy, x -> Bounds.mail(x, -1, 0), Bounds.THROWN);
        b.nothing("what 4", Bounds::busy, x -> Bounds.mail(x, 0, 4), Bounds.THROWN);
        b.nothing("what 17", Bounds::busy, x -> Bounds.mail(x, 0, 17), Bounds.THROWN);
    }

    // ---- 26

    private static void p26NoSuchOnes() {
        c.promise("26 of: NoSuchElementException: no such ones");
        b.range("boat", 0, 0, 0, Bounds.THROWN, v -> Bounds.of(Bounds.pairAnd(new Kind()), v, 0));
        b.range("boat of six", 0, 5, 0, Bounds.THROWN, v -> {
            HullLine x = Bounds.line(6);
            for (int i = 0; i < 6; i++) {
                new Kind().at(x, i);
            }
            return Bounds.of(x, v, 0);
        });
        b.range("what", 0, 9, 0, Bounds.THROWN, v -> Bounds.of(Bounds.pairAnd(new Kind()), 0, v));
        c.noOf(Bounds.line(2), 0, 0);
        c.noOf(new HullLine(), 0, 9);
        c.noOf(Bounds.pairAnd(new Kind()), 1, 9);
        c.noOf(Bounds.pairAnd(new Kind()), -1, 9);
    }

    private static void p26EachState() {
        c.promise("26 of: MOORED, AIR, SUNK");
        HullLine x = Bounds.pairAnd(new Kind().tank(60));
        x.swell(1, 0, 8);
        x.bag(0, 1, 100, 0);
        x.load(0, 0);
        asked(x, "moored", 0, 0, 60, 10460, 0, -1, 0, -1, 0, 0);
        x.lift(0, 0);
        asked(x, "lifted", 1, 1, 60, 10460, 0, -1, 0, 60, 0, 0);
        x.go(59);
        asked(x, "a minute ahead of its end", 1, 1, 60, 10460, 59, -1, 59, 60, 0, 0);
        x.go(1);
        asked(x, "circling", 1, 1, 60, 10460, 60, -1, 60, 60, 0, 0);
        x.go(1);
        asked(x, "sunk", 2, 1, 0, 10000, 61, -1, 0, -1, 0, 0);
        x.raise(0);
        asked(x, "raised", 0, 1, 0, 10000, 61, -1, 0, -1, 0, 1);
        x.rest(0);
        asked(x, "resting", 0, 1, 0, 10000, 0, -1, 0, -1, 1, 1);
        HullLine y = Bounds.pairAnd(new Kind());
        y.lift(0, 0);
        y.go(10);
        y.turn(0);
        asked(y, "turned", 1, 0, 1000, 16000, 10, -1, 10, 20, 0, 0);
        y.go(10);
        asked(y, "back", 0, 0, 980, 15880, 20, -1, 0, -1, 0, 0);
    }

    private static void asked(HullLine x, String when, int... due) {
        for (int i = 0; i < due.length; i++) {
            c.eq(when + ", of(0, " + i + ")", x.of(0, i), due[i]);
        }
    }

    private static void p26NothingHappens() {
        c.promise("26 of: it asks alone");
        b.nothing("no such boat", Bounds::busy, x -> Bounds.of(x, 5, 0), Bounds.THROWN);
        b.nothing("no such boat", Bounds::busy, x -> Bounds.of(x, -1, 0), Bounds.THROWN);
        b.nothing("what 10", Bounds::busy, x -> Bounds.of(x, 0, 10), Bounds.THROWN);
        b.nothing("what -1", Bounds::busy, x -> Bounds.of(x, 0, -1), Bounds.THROWN);
    }

    // ---- 27

    /** Boat 0 lifted once, with 16000 pounds. */
    private static HullLine lifted() {
        HullLine x = Bounds.pairAnd(new Kind());
        x.lift(0, 0);
        return x;
    }

    private static void p27NoSuchLift() {
        c.promise("27 run: false, too: no such LIFT");
        b.range("lift", 0, 0, 1, 0, v -> Bounds.bit(lifted().run(v, 200000)));
        c.no("none has lifted", Bounds.pairAnd(new Kind()).run(0, 200000));
        HullLine x = Bounds.pairAnd(new Kind());
        x.breaks(0, true);
        x.lift(0, 0);
        c.no("a refused one is none", x.run(0, 200000));
        c.eq("lifts", x.count(6), 0);
    }

    private static void p27NoSuchWeight() {
        c.promise("27 run: false, too: no such weight (0 .. 200000)");
        c.yes("200000", lifted().run(0, 200000));
        c.no("200001", lifted().run(0, 200001));
        c.no("a great one", lifted().run(0, Bounds.MAX));
        HullLine x = lifted();
        x.run(0, 200000);
        c.no("-1", x.run(0, -1));
        c.yes("which does not count", x.run(0, 20000));
        HullLine y = suspected();
        c.eq("a suspect", y.suspects(), 1);
        y.run(0, 200001);
        c.eq("200001 does not count", y.suspects(), 1);
        y.run(0, -1);
        c.eq("-1 does not count", y.suspects(), 1);
        y.run(0, 0);
        c.eq("0 does", y.suspects(), 0);
        y.run(0, 200001);
        c.eq("200001 does not count", y.suspects(), 0);
        y.run(0, 200000);
        c.eq("200000 does", y.suspects(), 1);
    }

    /** A bag aboard in lift 0, which had excess. */
    private static HullLine suspected() {
        HullLine x = Bounds.pairAnd(new Kind());
        x.bag(0, 1, 10, 0);
        x.load(0, 0);
        x.lift(0, 0);
        x.run(0, 16110);
        return x;
    }

    private static void p27ExcessToThePound() {
        c.promise("27 run: EXCESS, if that is 100 pounds above its WEIGHT, or more");
        int[][] due = {{0, 0}, {15999, 0}, {16000, 0}, {16001, 0}, {16099, 0}, {16100, 1}, {16101, 1}, {200000, 1}};
        for (int[] d : due) {
            c.eq("16000 and " + d[0], Bounds.bit(lifted().run(0, d[0])), d[1]);
        }
    }

    private static void p27WeightAsItLifted() {
        c.promise("27 run: its WEIGHT: as it lifted");
        HullLine x = Bounds.pairAnd(new Kind());
        x.bag(0, 1, 500, 0);
        x.load(0, 0);
        x.lift(0, 0);
        x.go(60);
        x.unload(0);
        x.lift(0, 0);
        c.no("16500 and 99", x.run(0, 16599));
        c.yes("16500 and 100", x.run(0, 16600));
        c.no("15640 and 99", x.run(1, 15739));
        c.yes("15640 and 100", x.run(1, 15740));
    }

    private static void p27TheLastOneFoundCounts() {
        c.promise("27 run: the last one found counts");
        HullLine x = suspected();
        c.eq("excess", x.suspects(), 1);
        c.no("found without", x.run(0, 16109));
        c.eq("none", x.suspects(), 0);
        c.yes("found with", x.run(0, 16110));
        c.eq("excess", x.suspects(), 1);
    }

    /** So many lifts of a boat, each by a bag of its own from the 199th on; two calls each, and some rests. */
    private static HullLine many(int lifts) {
        HullLine x = Bounds.pair(20);
        new Kind().speed(200).burn(10).tank(3000).at(x, 0);
        x.fuel(0, 60);
        for (int i = 0; i < 4; i++) {
            x.bag(i % 2, 1 - i % 2, 10, 0);
        }
        for (int i = 0; i < lifts; i++) {
            if (i >= 198) {
                x.load(i - 198, 0);
            }
            c.eq("lift " + i, x.lift(0, 0), 6);
            x.go(6);
            if (i >= 198) {
                x.unload(i - 198);
            }
            if (i == 130) {
                x.rest(0);
                x.go(480);
            }
        }
        return x;
    }

    private static void p27TwoHundredAreKept() {
        c.promise("27 run: 200 at most are kept (the first)");
        HullLine x = many(199);
        c.eq("199 lifts", x.count(6), 199);
        c.yes("lift 198", x.run(198, 200000));
        c.no("lift 199", x.run(199, 200000));
        HullLine y = many(200);
        c.eq("200 lifts", y.count(6), 200);
        c.yes("lift 199", y.run(199, 200000));
        c.no("lift 200", y.run(200, 200000));
        HullLine z = many(202);
        c.eq("202 lifts", z.count(6), 200);
        c.yes("lift 0", z.run(0, 200000));
        c.yes("lift 199", z.run(199, 200000));
        c.no("lift 200 is not kept", z.run(200, 200000));
        c.no("lift 201 is not kept", z.run(201, 200000));
        c.eq("it landed all the same", z.of(0, 0), 0);
        c.eq("and brought its bags", z.count(11), 4);
    }

    private static void p27NothingHappens() {
        c.promise("27 run: false");
        b.nothing("no such lift", Bounds::busy, x -> Bounds.bit(x.run(3, 200000)), 0);
        b.nothing("no such lift", Bounds::busy, x -> Bounds.bit(x.run(-1, 200000)), 0);
        b.nothing("weight -1", Bounds::busy, x -> Bounds.bit(x.run(1, -1)), 0);
        b.nothing("weight 200001", Bounds::busy, x -> Bounds.bit(x.run(1, 200001)), 0);
    }

    // ---- 28

    private static void p28NoneFound() {
        c.promise("28 suspects: none, if no EXCESS was found");
        c.eq("a new object", new HullLine().suspects(), 0);
        HullLine x = Bounds.pairAnd(new Kind());
        x.bag(0, 1, 10, 0);
        x.load(0, 0);
        c.eq("no lift", x.suspects(), 0);
        x.lift(0, 0);
        c.eq("a lift, no run", x.suspects(), 0);
        x.run(0, 16109);
        c.eq("a run without", x.suspects(), 0);
        x.run(0, 16110);
        c.eq("a run with", x.suspects(), 1);
    }

    private static void p28Bits() {
        c.promise("28 suspects: as bits");
        for (int bag = 0; bag < 30; bag++) {
            HullLine x = Bounds.pairAnd(new Kind());
            for (int i = 0; i < 30; i++) {
                x.bag(0, 1, 10, 0);
            }
            x.load(bag, 0);
            x.lift(0, 0);
            x.run(0, 200000);
            c.eq("bag " + bag, x.suspects(), 1 << bag);
        }
        HullLine y = Bounds.pairAnd(new Kind());
        for (int i = 0; i < 30; i++) {
            y.bag(0, 1, 10, 0);
            y.load(i, 0);
        }
        y.lift(0, 0);
        y.run(0, 200000);
        c.eq("all 30", y.suspects(), (1 << 30) - 1);
    }

    /** Three lifts: bags 0 and 1, bags 1 and 2, bag 0 alone; each weighs less than 16100. */
    private static HullLine threeLifts() {
        HullLine x = Bounds.pairAnd(new Kind());
        for (int i = 0; i < 4; i++) {
            x.bag(0, 1, 10, 0);
        }
        int[][] aboard = {{0, 1}, {1, 2}, {0}};
        for (int[] bags : aboard) {
            for (int bag : bags) {
                x.load(bag, 0);
            }
            x.lift(0, 0);
            x.go(1);
            x.turn(0);
            x.go(1);
            for (int bag : bags) {
                x.unload(bag);
            }
        }
        c.eq("lifts", x.count(6), 3);
        return x;
    }

    private static int suspects(int... found) {
        HullLine x = threeLifts();
        for (int i = 0; i < found.length; i++) {
            if (found[i] >= 0) {
                x.run(i, found[i] == 1 ? 20000 : 0);
            }
        }
        return x.suspects();
    }

    private static void p28InEachWithExcess() {
        c.promise("28 suspects: that were aboard in each LIFT with EXCESS");
        c.eq("the first", suspects(1, -1, -1), 3);
        c.eq("the second", suspects(-1, 1, -1), 6);
        c.eq("the third", suspects(-1, -1, 1), 1);
        c.eq("first and second", suspects(1, 1, -1), 2);
        c.eq("first and third", suspects(1, -1, 1), 1);
        c.eq("second and third", suspects(-1, 1, 1), 0);
        c.eq("all", suspects(1, 1, 1), 0);
    }

    private static void p28InNoneWithout() {
        c.promise("28 suspects: and in none that was found without");
        c.eq("first, not second", suspects(1, 0, -1), 1);
        c.eq("first, not third", suspects(1, -1, 0), 2);
        c.eq("first, not the others", suspects(1, 0, 0), 0);
        c.eq("second, not first", suspects(0, 1, -1), 4);
        c.eq("second, not third", suspects(-1, 1, 0), 6);
        c.eq("third, not second", suspects(-1, 0, 1), 1);
        c.eq("first and second, not third", suspects(1, 1, 0), 2);
        c.eq("all without", suspects(0, 0, 0), 0);
    }

    private static void p28NoBagsAboard() {
        c.promise("28 suspects: EXCESS with no BAG aboard");
        HullLine x = Bounds.pairAnd(new Kind());
        x.bag(0, 1, 10, 0);
        x.lift(0, 0);
        c.yes("excess", x.run(0, 16100));
        c.eq("none", x.suspects(), 0);
    }

    private static void p28TheLastLiftKept() {
        c.promise("28 suspects: of the 200 that are kept");
        HullLine x = many(202);
        x.run(199, 200000);
        c.eq("the bag of lift 199", x.suspects(), 2);
        x.run(198, 0);
        c.eq("lift 198 had another one", x.suspects(), 2);
        x.run(200, 200000);
        x.run(201, 0);
        c.eq("later lifts have no run", x.suspects(), 2);
    }

    private static void p28AsksAlone() {
        c.promise("28 suspects: it asks alone");
        b.nothing("suspects", Bounds::busy, x -> x.suspects(), 1 << Bounds.BAG_DELIVERED);
    }
}
