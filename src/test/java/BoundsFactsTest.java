/** Promises 6 to 9 at the boundaries that the document names. */
public final class BoundsFactsTest {
    private static final Check c = new Check("BoundsFactsTest");
    private static final Bounds b = new Bounds(c);
    private static final int NONE = HullLine.NONE;
    private static final int NO_WIND = -1000;

    public static void main(String[] args) {
        p06Ranges();
        p06ThereAre160();
        p06NothingHappens();
        p07Ranges();
        p07ThereAre160();
        p07NothingHappens();
        p08NoSuchOnes();
        p08LatestHourUpToIt();
        p08LastToldOfOneHour();
        p08Without();
        p08EachOf160();
        p08EachStopHasItsOwn();
        p08ByAllFacts();
        p09NoSuchOnes();
        p09LatestDayUpToIt();
        p09LastToldOfOneDay();
        p09Without();
        p09EachOf160();
        p09FromTheStopToldFirst();
        p09ByAllFacts();
        c.finish();
    }

    // ---- 6

    private static void p06Ranges() {
        c.promise("6 swell: no such STOP, HOUR, SWELL");
        b.range("stop", 0, 11, 0, NONE, v -> Bounds.line(12).swell(v, 0, 1));
        b.range("stop of one", 0, 0, 0, NONE, v -> Bounds.line(1).swell(v, 0, 1));
        b.range("hour", 0, 2399, 0, NONE, v -> Bounds.line(1).swell(0, v, 1));
        b.range("swell", 0, 9, 0, NONE, v -> Bounds.line(1).swell(0, 0, v));
    }

    private static void p06ThereAre160() {
        c.promise("6 swell: there are 160");
        HullLine x = Bounds.pair(100);
        for (int i = 0; i < 160; i++) {
            c.eq("swell", x.swell(i % 2, i * 15, i % 10), i);
        }
        c.eq("a 161st", x.swell(0, 0, 1), NONE);
        c.eq("a 161st, of wind", x.wind(0, 0, 1), NONE);
        c.eq("facts", x.count(4), 160);
        c.eq("the last but one", x.swellOf(0, 2399, 160), 8);
        c.eq("the last", x.swellOf(1, 2399, 160), 9);
        HullLine y = Bounds.pair(100);
        for (int i = 0; i < 159; i++) {
            y.wind(0, 0, 1);
        }
        c.eq("the 160th, behind winds", y.swell(0, 0, 1), 159);
        c.eq("a 161st", y.swell(0, 0, 1), NONE);
    }

    private static void full(HullLine x) {
        x.stop(4, 9, true);
        x.stop(4, 9, true);
        x.leg(0, 1, 120);
        x.drums(0, 99);
        new Kind().at(x, 0);
        x.fuel(0, 9);
        for (int i = 0; i < 160; i++) {
            if (i % 2 == 0) {
                x.swell(i / 2 % 2, i * 7, 2 + i % 5);
            } else {
                x.wind(0, i / 2, i % 50);
            }
        }
    }

    private static void p06NothingHappens() {
        c.promise("6 swell: NONE");
        b.nothing("stop -1", Bounds::busy, x -> x.swell(-1, 7, 9), NONE);
        b.nothing("stop 3", Bounds::busy, x -> x.swell(3, 7, 9), NONE);
        b.nothing("hour -1", Bounds::busy, x -> x.swell(0, -1, 9), NONE);
        b.nothing("hour 2400", Bounds::busy, x -> x.swell(0, 2400, 9), NONE);
        b.nothing("swell -1", Bounds::busy, x -> x.swell(0, 7, -1), NONE);
        b.nothing("swell 10", Bounds::busy, x -> x.swell(0, 7, 10), NONE);
        b.nothing("a 161st of now", BoundsFactsTest::full, x -> x.swell(0, 0, 9), NONE);
        b.nothing("a 161st of the last hour", BoundsFactsTest::full, x -> x.swell(1, 2399, 9), NONE);
        HullLine x = Bounds.line(1);
        x.swell(0, 2400, 1);
        x.swell(0, 0, 10);
        c.eq("no number is used up", x.swell(0, 0, 1), 0);
    }

    // ---- 7

    private static void p07Ranges() {
        c.promise("7 wind: no such LEG, DAY, WIND");
        b.range("leg", 0, 0, 0, NONE, v -> Bounds.pair(100).wind(v, 0, 1));
        b.range("leg of 30", 0, 29, 0, NONE, v -> {
            HullLine x = Bounds.line(2);
            for (int i = 0; i < 30; i++) {
                x.leg(0, 1, 100);
            }
            return x.wind(v, 0, 1);
        });
        b.range("day", 0, 99, 0, NONE, v -> Bounds.pair(100).wind(0, v, 1));
        b.range("wind", -60, 60, 0, NONE, v -> Bounds.pair(100).wind(0, 0, v));
    }

    private static void p07ThereAre160() {
        c.promise("7 wind: there are 160");
        HullLine x = Bounds.pair(100);
        for (int i = 0; i < 160; i++) {
            c.eq("wind", x.wind(0, i % 100, i % 121 - 60), i);
        }
        c.eq("a 161st", x.wind(0, 0, 1), NONE);
        c.eq("a 161st, of swell", x.swell(0, 0, 1), NONE);
        c.eq("facts", x.count(4), 160);
        c.eq("the last", x.windOf(0, 59, 160), 159 % 121 - 60);
        HullLine y = Bounds.pair(100);
        for (int i = 0; i < 159; i++) {
            y.swell(0, 0, 1);
        }
        c.eq("the 160th, behind swells", y.wind(0, 0, 1), 159);
        c.eq("a 161st", y.wind(0, 0, 1), NONE);
    }

    private static void p07NothingHappens() {
        c.promise("7 wind: NONE");
        b.nothing("leg -1", Bounds::busy, x -> x.wind(-1, 0, 50), NONE);
        b.nothing("leg 3", Bounds::busy, x -> x.wind(3, 0, 50), NONE);
        b.nothing("day -1", Bounds::busy, x -> x.wind(0, -1, 50), NONE);
        b.nothing("day 100", Bounds::busy, x -> x.wind(0, 100, 50), NONE);
        b.nothing("wind -61", Bounds::busy, x -> x.wind(0, 0, -61), NONE);
        b.nothing("wind 61", Bounds::busy, x -> x.wind(0, 0, 61), NONE);
        b.nothing("a 161st of today", BoundsFactsTest::full, x -> x.wind(0, 0, 60), NONE);
        b.nothing("a 161st of the last day", BoundsFactsTest::full, x -> x.wind(0, 99, 60), NONE);
        HullLine x = Bounds.pair(100);
        x.wind(0, 100, 1);
        x.wind(0, 0, 61);
        c.eq("no number is used up", x.wind(0, 0, 1), 0);
    }

    // ---- 8

    private static HullLine told(int swells) {
        HullLine x = Bounds.pair(100);
        for (int i = 0; i < swells; i++) {
            x.swell(0, 0, 5);
            x.wind(0, 0, 5);
        }
        return x;
    }

    private static void p08NoSuchOnes() {
        c.promise("8 swellOf: no such STOP, HOUR, n");
        b.range("stop", 0, 11, 3, NONE, v -> Bounds.line(12).swellOf(v, 0, 0));
        b.range("stop of one", 0, 0, 3, NONE, v -> Bounds.line(1).swellOf(v, 0, 0));
        b.range("hour", 0, 2399, 5, NONE, v -> told(1).swellOf(0, v, 1));
        b.range("n of none", 0, 0, 3, NONE, v -> told(0).swellOf(0, 0, v));
        c.eq("n 1 of 160", told(80).swellOf(0, 0, 1), 5);
        c.eq("n 160 of 160", told(80).swellOf(0, 0, 160), 5);
        b.outside("n of 160", 0, 160, NONE, v -> told(80).swellOf(0, 0, v));
        c.eq("n 0 of 160", told(80).swellOf(0, 0, 0), 3);
        c.eq("n 2 of 2", told(1).swellOf(0, 0, 2), 5);
        c.eq("n 3 of 2", told(1).swellOf(0, 0, 3), NONE);
    }

    private static void p08LatestHourUpToIt() {
        c.promise("8 swellOf: of the latest HOUR up to it");
        HullLine x = Bounds.line(1);
        x.swell(0, 100, 4);
        x.swell(0, 200, 8);
        int[][] due = {{0, 3}, {99, 3}, {100, 4}, {101, 4}, {199, 4}, {200, 8}, {201, 8}, {2399, 8}};
        for (int[] d : due) {
            c.eq("at " + d[0], x.swellOf(0, d[0], 2), d[1]);
        }
        x.swell(0, 2399, 0);
        c.eq("at 2398", x.swellOf(0, 2398, 3), 8);
        c.eq("at 2399", x.swellOf(0, 2399, 3), 0);
        x.swell(0, 0, 9);
        c.eq("at 0", x.swellOf(0, 0, 4), 9);
        c.eq("at 99", x.swellOf(0, 99, 4), 9);
        c.eq("at 100", x.swellOf(0, 100, 4), 4);
        x.swell(0, 150, 1);
        c.eq("between, told last: at 149", x.swellOf(0, 149, 5), 4);
        c.eq("between, told last: at 150", x.swellOf(0, 150, 5), 1);
        c.eq("between, told last: at 199", x.swellOf(0, 199, 5), 1);
        c.eq("between, told last: at 200", x.swellOf(0, 200, 5), 8);
    }

    private static void p08LastToldOfOneHour() {
        c.promise("8 swellOf: the last told");
        HullLine x = Bounds.line(1);
        for (int i = 0; i < 10; i++) {
            x.swell(0, 50, i);
        }
        c.eq("by 0", x.swellOf(0, 50, 0), 3);
        for (int n = 1; n <= 10; n++) {
            c.eq("by " + n, x.swellOf(0, 50, n), n - 1);
            c.eq("an hour ahead, by " + n, x.swellOf(0, 49, n), 3);
            c.eq("an hour behind, by " + n, x.swellOf(0, 51, n), n - 1);
        }
    }

    private static void p08Without() {
        c.promise("8 swellOf: 3 without");
        HullLine x = Bounds.pair(100);
        c.eq("no facts", x.swellOf(0, 2399, 0), 3);
        x.wind(0, 0, 9);
        x.swell(1, 0, 9);
        c.eq("facts of others", x.swellOf(0, 2399, 2), 3);
        x.swell(0, 1, 9);
        c.eq("a fact of a later hour", x.swellOf(0, 0, 3), 3);
        c.eq("a fact not yet known", x.swellOf(0, 1, 2), 3);
        c.eq("a fact known", x.swellOf(0, 1, 3), 9);
    }

    private static void p08EachOf160() {
        c.promise("8 swellOf: AS KNOWN by n the first n are");
        HullLine rising = Bounds.line(1);
        HullLine falling = Bounds.line(1);
        for (int i = 0; i < 160; i++) {
            rising.swell(0, 10 * i, i % 10);
            falling.swell(0, 10 * (160 - i), i % 10);
        }
        for (int n = 0; n <= 160; n++) {
            c.eq("rising hours, by " + n, rising.swellOf(0, 2399, n), n == 0 ? 3 : (n - 1) % 10);
            c.eq("falling hours, by " + n, falling.swellOf(0, 2399, n), n == 0 ? 3 : 0);
            int last = 10 * (160 - n + 1);
            c.eq("the last told, by " + n, falling.swellOf(0, Math.min(last + 9, 2399), n), n == 0 ? 3 : (n - 1) % 10);
        }
    }

    private static void p08EachStopHasItsOwn() {
        c.promise("8 swellOf: of a STOP");
        HullLine x = Bounds.line(12);
        for (int i = 0; i < 12; i++) {
            x.swell(i, 100 + i, (i + 4) % 10);
        }
        for (int i = 0; i < 12; i++) {
            c.eq("stop " + i, x.swellOf(i, 2399, 12), (i + 4) % 10);
            c.eq("stop " + i + ", an hour ahead", x.swellOf(i, 99 + i, 12), 3);
            c.eq("stop " + i + ", not known", x.swellOf(i, 2399, i), 3);
        }
    }

    private static void p08ByAllFacts() {
        c.promise("8 swellOf: what is said without \"as known\" is by all FACTS, of the HOUR of NOW");
        HullLine x = Bounds.pairAnd(new Kind());
        x.swell(0, 1, 7);
        x.swell(0, 1, 8);
        x.swell(0, 2, 4);
        Check.rules(x, "lift if swell=3;lift if swell=8;lift if swell=4;");
        c.eq("minute 0", x.barred(0, false), 1);
        x.go(59);
        c.eq("minute 59", x.barred(0, false), 1);
        x.go(1);
        c.eq("minute 60: not 3, and it is 8", x.barred(0, false), 0);
        Check.rules(x, "lift if swell=8;lift if swell=4;");
        c.eq("minute 60", x.barred(0, false), 1);
        x.go(59);
        c.eq("minute 119", x.barred(0, false), 1);
        x.go(1);
        c.eq("minute 120", x.barred(0, false), 0);
        Check.rules(x, "lift if swell=4;");
        c.eq("minute 120", x.barred(0, false), NONE);
    }

    // ---- 9

    private static void p09NoSuchOnes() {
        c.promise("9 windOf: -1000: no such LEG, DAY, n");
        b.range("leg", 0, 0, 5, NO_WIND, v -> told(1).windOf(v, 0, 2));
        b.range("leg of 30", 0, 29, 0, NO_WIND, v -> {
            HullLine x = Bounds.line(2);
            for (int i = 0; i < 30; i++) {
                x.leg(0, 1, 100);
            }
            return x.windOf(v, 0, 0);
        });
        b.range("day", 0, 99, 5, NO_WIND, v -> told(1).windOf(0, v, 2));
        b.range("n of none", 0, 0, 0, NO_WIND, v -> told(0).windOf(0, 0, v));
        c.eq("n 2 of 160", told(80).windOf(0, 0, 2), 5);
        c.eq("n 160 of 160", told(80).windOf(0, 0, 160), 5);
        b.outside("n of 160", 0, 160, NO_WIND, v -> told(80).windOf(0, 0, v));
        c.eq("n 1 of 160", told(80).windOf(0, 0, 1), 0);
        c.eq("n 0 of 160", told(80).windOf(0, 0, 0), 0);
        c.eq("n 3 of 2", told(1).windOf(0, 0, 3), NO_WIND);
        c.eq("no legs", Bounds.line(2).windOf(0, 0, 0), NO_WIND);
        HullLine x = Bounds.pair(100);
        x.wind(0, 0, -1);
        c.eq("a wind of -1 is one", x.windOf(0, 0, 1), -1);
    }

    private static void p09LatestDayUpToIt() {
        c.promise("9 windOf: of the latest DAY up to it");
        HullLine x = Bounds.pair(100);
        x.wind(0, 10, -60);
        x.wind(0, 20, 60);
        int[][] due = {{0, 0}, {9, 0}, {10, -60}, {11, -60}, {19, -60}, {20, 60}, {21, 60}, {99, 60}};
        for (int[] d : due) {
            c.eq("on " + d[0], x.windOf(0, d[0], 2), d[1]);
        }
        x.wind(0, 99, 1);
        c.eq("on 98", x.windOf(0, 98, 3), 60);
        c.eq("on 99", x.windOf(0, 99, 3), 1);
        x.wind(0, 0, 2);
        c.eq("on 0", x.windOf(0, 0, 4), 2);
        c.eq("on 9", x.windOf(0, 9, 4), 2);
        c.eq("on 10", x.windOf(0, 10, 4), -60);
        x.wind(0, 15, 7);
        c.eq("between, told last: on 14", x.windOf(0, 14, 5), -60);
        c.eq("between, told last: on 15", x.windOf(0, 15, 5), 7);
        c.eq("between, told last: on 19", x.windOf(0, 19, 5), 7);
        c.eq("between, told last: on 20", x.windOf(0, 20, 5), 60);
    }

    private static void p09LastToldOfOneDay() {
        c.promise("9 windOf: the last told");
        HullLine x = Bounds.pair(100);
        for (int i = 1; i <= 10; i++) {
            x.wind(0, 50, i);
        }
        for (int n = 0; n <= 10; n++) {
            c.eq("by " + n, x.windOf(0, 50, n), n);
            c.eq("a day ahead, by " + n, x.windOf(0, 49, n), 0);
            c.eq("a day behind, by " + n, x.windOf(0, 51, n), n);
        }
    }

    private static void p09Without() {
        c.promise("9 windOf: 0 without");
        HullLine x = Bounds.pair(100);
        x.leg(0, 1, 100);
        c.eq("no facts", x.windOf(0, 99, 0), 0);
        x.swell(0, 0, 9);
        x.wind(1, 0, 9);
        c.eq("facts of others", x.windOf(0, 99, 2), 0);
        x.wind(0, 1, 9);
        c.eq("a fact of a later day", x.windOf(0, 0, 3), 0);
        c.eq("a fact not yet known", x.windOf(0, 1, 2), 0);
        c.eq("a fact known", x.windOf(0, 1, 3), 9);
    }

    private static void p09EachOf160() {
        c.promise("9 windOf: AS KNOWN by n the first n are");
        HullLine x = Bounds.pair(100);
        for (int i = 0; i < 160; i++) {
            x.wind(0, i * 100 / 160, i % 60 + 1);
        }
        for (int n = 0; n <= 160; n++) {
            c.eq("by " + n, x.windOf(0, 99, n), n == 0 ? 0 : (n - 1) % 60 + 1);
        }
    }

    private static void p09FromTheStopToldFirst() {
        c.promise("9 windOf: from the STOP that was told first to the other one");
        HullLine x = Bounds.pair(120);
        x.leg(1, 0, 120);
        x.wind(0, 0, 60);
        x.wind(1, 0, 60);
        c.eq("as told", x.windOf(0, 0, 2), 60);
        c.eq("as told, of the leg told the other way", x.windOf(1, 0, 2), 60);
        new Kind().at(x, 0);
        new Kind().at(x, 1);
        x.fuel(0, 20);
        x.fuel(1, 20);
        c.eq("from stop 0 along leg 0: 180 miles an hour", x.lift(0, 0), 40);
        c.eq("from stop 1 along leg 0: 60 miles an hour", x.lift(1, 0), 120);
        HullLine y = Bounds.pair(120);
        y.leg(1, 0, 120);
        y.wind(1, 0, 60);
        new Kind().at(y, 0);
        y.fuel(0, 20);
        c.eq("from stop 0 along leg 1: 60 miles an hour", y.lift(0, 1), 120);
    }

    private static void p09ByAllFacts() {
        c.promise("9 windOf: what is said without \"as known\" is by all FACTS, of the DAY of NOW");
        HullLine x = Bounds.pairAnd(new Kind());
        x.wind(0, 1, 10);
        x.wind(0, 1, 60);
        x.go(1439);
        c.eq("minute 1439: no wind", x.lift(0, 0), 60);
        HullLine y = Bounds.pairAnd(new Kind());
        y.wind(0, 1, 10);
        y.wind(0, 1, 60);
        y.go(1440);
        c.eq("minute 1440: the last told", y.lift(0, 0), 40);
    }
}
