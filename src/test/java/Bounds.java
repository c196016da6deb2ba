import java.util.List;
import java.util.NoSuchElementException;
import java.util.function.Consumer;
import java.util.function.IntToLongFunction;
import java.util.function.ToLongFunction;

/** What the tests of boundaries share: ranges, refused calls behind which nothing has happened, and lines to try them on. */
final class Bounds {
    static final int MIN = Integer.MIN_VALUE;
    static final int MAX = Integer.MAX_VALUE;
    /** Stands for a NoSuchElementException among answers, none of which is so low. */
    static final long THROWN = -99999;

    private final Check c;

    Bounds(Check c) {
        this.c = c;
    }

    static long bit(boolean answer) {
        return answer ? 1 : 0;
    }

    static long of(HullLine x, int boat, int what) {
        try {
            return x.of(boat, what);
        } catch (NoSuchElementException e) {
            return THROWN;
        }
    }

    static long mail(HullLine x, int bag, int what) {
        try {
            return x.mail(bag, what);
        } catch (NoSuchElementException e) {
            return THROWN;
        }
    }

    /** The last values that are taken and the first that are not, on both sides; each asked of an object of its own. */
    void range(String what, int least, int most, long taken, long refused, IntToLongFunction call) {
        c.eq(what + " " + least, call.applyAsLong(least), taken);
        c.eq(what + " " + most, call.applyAsLong(most), taken);
        outside(what, least, most, refused, call);
    }

    void outside(String what, int least, int most, long refused, IntToLongFunction call) {
        // 2 to the 8th and to the 16th more: a number that is cut to a byte or a short would be taken
        int[] wrong = {least - 1, most + 1, MIN, MAX, MIN + least, least - 1000, most + 256, most + 65536};
        for (int v : wrong) {
            c.eq(what + " " + v, call.applyAsLong(v), refused);
        }
    }

    /** A refused call: of two objects made alike, the one that refused it answers on like the other. */
    void nothing(String what, Consumer<HullLine> made, ToLongFunction<HullLine> call, long due) {
        HullLine with = new HullLine();
        HullLine without = new HullLine();
        made.accept(with);
        made.accept(without);
        c.eq(what, call.applyAsLong(with), due);
        List<String> got = Answers.of(with);
        List<String> want = Answers.of(without);
        c.eq(what + ": so many answers behind it", got.size(), want.size());
        for (int i = 0; i < Math.min(got.size(), want.size()); i++) {
            if (!got.get(i).equals(want.get(i))) {
                c.yes(what + ": behind it " + got.get(i) + ", without it " + want.get(i), false);
                return;
            }
        }
        c.yes(what + ": nothing happened", true);
    }

    /** So many stops, with 4 buoys, 60 beds, a light and 500 drums each. */
    static HullLine line(int stops) {
        HullLine x = new HullLine();
        for (int i = 0; i < stops; i++) {
            x.stop(4, 60, true);
            x.drums(i, 500);
        }
        return x;
    }

    /** Two stops, and leg 0 of so many miles between them. */
    static HullLine pair(int miles) {
        HullLine x = line(2);
        x.leg(0, 1, miles);
        return x;
    }

    /** Two stops 120 miles apart and a boat at stop 0 with a full tank. */
    static HullLine pairAnd(Kind kind) {
        HullLine x = pair(120);
        kind.at(x, 0);
        x.fuel(0, 60);
        return x;
    }

    /** A text on the tape: 0 or the fault, as promised, or how many lines. */
    static int rulesOf(String text) {
        return Check.rules(new HullLine(), text);
    }

    static String times(String text, int n) {
        return text.repeat(n);
    }

    /** Minutes go by till it is this one. */
    static void goTo(HullLine x, int minute) {
        int left = minute - x.count(0);
        for (; left > 0; left -= 1440) {
            x.go(Math.min(1440, left));
        }
    }

    // ---- the busy line

    static final int WAITS = 0;
    static final int FLIES = 1;
    static final int SANK = 2;
    static final int RESTS = 3;
    static final int IN_THE_WAY = 4;

    static final int BAG_ASHORE = 0;
    static final int BAG_WAITING = 1;
    static final int BAG_DELIVERED = 2;
    static final int BAG_LOST = 3;
    static final int BAG_FLYING = 4;

    /**
     * A line in the midst of things, at minute 470: a boat that waits for a cause with a bag aboard, one in the air, one
     * sunk where no buoy is free, one broken whose crew rests; bags in each state; rules, bytes on the tape, facts, runs.
     */
    static void busy(HullLine x) {
        x.stop(4, 12, true);
        x.stop(2, 3, false);
        x.stop(1, 0, true);
        x.leg(0, 1, 120);
        x.leg(1, 2, 240);
        x.leg(2, 0, 60);
        x.drums(0, 40);
        x.drums(1, 7);
        for (int i = 0; i < 4; i++) {
            new Kind().at(x, 0);
        }
        for (int i = 0; i < 5; i++) {
            x.bag(0, 1, 100 * (i + 1), 440 + i);
        }
        x.bag(1, 2, 50, 900);
        x.swell(2, 0, 8);
        x.wind(0, 0, 10);
        x.wind(1, 3, -20);
        x.swell(0, 7, 1);
        Check.rules(x, "land at 2 if swell<9; lift if bags<3;");
        x.go(400);
        fly(x);
        Check.write(x, "lift if day=9;");
    }

    private static void fly(HullLine x) {
        x.load(BAG_DELIVERED, RESTS);
        x.load(BAG_LOST, SANK);
        x.fuel(RESTS, 4);
        x.fuel(SANK, 1);
        x.lift(RESTS, 0);
        x.lift(SANK, 2);
        x.go(60);
        x.unload(BAG_DELIVERED);
        x.breaks(RESTS, true);
        x.rest(RESTS);
        x.lift(RESTS, 0);
        new Kind().at(x, 2);
        x.load(BAG_WAITING, WAITS);
        x.fuel(WAITS, 1);
        x.lift(WAITS, 0);
        x.load(BAG_FLYING, FLIES);
        x.fuel(FLIES, 6);
        x.lift(FLIES, 0);
        x.run(0, 12000);
        x.run(2, 12100);
        x.go(10);
    }
}
