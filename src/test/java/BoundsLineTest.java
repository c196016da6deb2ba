/** Promises 1 to 5, 30 and 31 at the boundaries that the document names. */
public final class BoundsLineTest {
    private static final Check c = new Check("BoundsLineTest");
    private static final Bounds b = new Bounds(c);
    private static final int NONE = HullLine.NONE;

    public static void main(String[] args) {
        busyLine();
        p01NothingIsThere();
        p01FirstOfEach();
        p01EmptyTape();
        p01MinuteZero();
        p01ObjectsShareNothing();
        p02Buoys();
        p02Beds();
        p02ThereAreTwelve();
        p02NothingHappens();
        p03Miles();
        p03TwoStops();
        p03ThereAreThirty();
        p03NothingHappens();
        p04Number();
        p04NoSuchStop();
        p04NoMoreThan999();
        p04NoneAtFirst();
        p04NothingHappens();
        p05Ranges();
        p05NoSuchStop();
        p05ThereAreSix();
        p05NoFreeBuoy();
        p05BuoyOfOneThatLeftOrSank();
        p05AsItComes();
        p05NothingHappens();
        p30NoOthers();
        p30Full();
        p31NoSuchStop();
        p31AllAndNone();
        p31AirAndSunkTakeNone();
        c.finish();
    }

    /** The tests of refused calls lean on this line: it must be as its comment says. */
    private static void busyLine() {
        c.promise("the busy line");
        HullLine x = new HullLine();
        Bounds.busy(x);
        int[][] boats = {
            {0, 0, 50, 10500, 0, 2, 0, -1, 0, 0},
            {1, 1, 300, 12300, 10, -1, 10, 56, 0, 0},
            {2, 2, 0, 10000, 51, -1, 0, -1, 0, 0},
            {0, 1, 144, 10864, 0, 3, 0, -1, 1, 1},
            {0, 2, 0, 10000, 0, -1, 0, -1, 0, 0}};
        for (int i = 0; i < boats.length; i++) {
            for (int k = 0; k < 10; k++) {
                c.eq("of(" + i + ", " + k + ")", x.of(i, k), boats[i][k]);
            }
        }
        int[] bags = {0, 1, 2, 3, 1, 0};
        for (int i = 0; i < bags.length; i++) {
            c.eq("mail(" + i + ", 0)", x.mail(i, 0), bags[i]);
        }
        int[] counts = {470, 3, 3, 5, 4, 6, 3, 494, 35, 106, 0, 1, 14, 2};
        for (int i = 0; i < counts.length; i++) {
            c.eq("count(" + i + ")", x.count(i), counts[i]);
        }
        c.eq("suspects", x.suspects(), 1 << Bounds.BAG_DELIVERED);
    }

    // ---- 1

    private static void p01NothingIsThere() {
        c.promise("1 new: no STOPS, and so nothing else");
        HullLine x = new HullLine();
        for (int i = 0; i <= 13; i++) {
            c.eq("count(" + i + ")", x.count(i), 0);
        }
        c.eq("leg", x.leg(0, 1, 100), NONE);
        c.eq("drums", x.drums(0, 1), NONE);
        c.eq("boat", new Kind().at(x, 0), NONE);
        c.eq("swell", x.swell(0, 0, 0), NONE);
        c.eq("wind", x.wind(0, 0, 0), NONE);
        c.eq("swellOf", x.swellOf(0, 0, 0), NONE);
        c.eq("windOf", x.windOf(0, 0, 0), -1000);
        c.eq("barred", x.barred(0, false), -2);
        c.eq("fuel", x.fuel(0, 1), NONE);
        c.eq("lift", x.lift(0, 0), NONE);
        c.eq("turn", x.turn(0), NONE);
        c.eq("point", x.point(0, 0), NONE);
        c.no("rest", x.rest(0));
        c.no("breaks", x.breaks(0, true));
        c.no("raise", x.raise(0));
        c.eq("bag", x.bag(0, 1, 1, 0), NONE);
        c.no("load", x.load(0, 0));
        c.no("unload", x.unload(0));
        c.noMail(x, 0, 0);
        c.noOf(x, 0, 0);
        c.no("run", x.run(0, 0));
        c.eq("suspects", x.suspects(), 0);
        c.eq("way", x.way(0, 0, 1, 0, 0, 0), NONE);
        c.eq("free", x.free(0), NONE);
        for (int i = 0; i <= 13; i++) {
            c.eq("count(" + i + ") behind all these", x.count(i), 0);
        }
    }

    private static void p01FirstOfEach() {
        c.promise("1 new: the first of each is 0");
        HullLine x = new HullLine();
        c.eq("stop", x.stop(1, 2, true), 0);
        c.eq("stop", x.stop(1, 2, true), 1);
        c.eq("leg", x.leg(0, 1, 120), 0);
        c.eq("boat", new Kind().at(x, 0), 0);
        c.eq("bag", x.bag(0, 1, 1, 0), 0);
        c.eq("fact", x.wind(0, 0, 0), 0);
    }

    private static void p01EmptyTape() {
        c.promise("1 new: an empty TAPE, no RULES");
        c.eq("end(0)", new HullLine().end(0), 0);
        c.eq("end(1)", new HullLine().end(1), NONE);
        c.eq("rules()", new HullLine().rules(), 0);
        c.eq("feed", new HullLine().feed(0, 0, 0, 0, 0), 20);
        HullLine x = Bounds.pairAnd(new Kind());
        c.eq("no rule of lifting", x.barred(0, false), NONE);
        c.eq("no rule of landing", x.barred(0, true), NONE);
    }

    private static void p01MinuteZero() {
        c.promise("1 new: MINUTE 0");
        c.eq("go(1)", new HullLine().go(1), 1);
        HullLine x = Bounds.pairAnd(new Kind());
        Check.rules(x, "lift if hour=0 and day=0;");
        c.eq("hour 0 of day 0", x.barred(0, false), NONE);
    }

    private static void p01ObjectsShareNothing() {
        c.promise("1 new: as new, whatever another object has seen");
        Bounds.busy(new HullLine());
        p01NothingIsThere();
    }

    // ---- 2

    private static void p02Buoys() {
        c.promise("2 stop: BUOYS 1 .. 4");
        b.range("buoys", 1, 4, 0, NONE, v -> new HullLine().stop(v, 30, true));
        for (int buoys = 1; buoys <= 4; buoys++) {
            HullLine x = new HullLine();
            x.stop(buoys, 0, false);
            c.eq("free with " + buoys, x.free(0), buoys);
        }
    }

    private static void p02Beds() {
        c.promise("2 stop: BEDS 0 .. 60");
        b.range("beds", 0, 60, 0, NONE, v -> new HullLine().stop(2, v, false));
        HullLine x = new HullLine();
        x.stop(1, 0, true);
        new Kind().crew(2).at(x, 0);
        c.no("no bed, no rest", x.rest(0));
        HullLine y = new HullLine();
        y.stop(4, 60, true);
        for (int i = 0; i < 4; i++) {
            new Kind().crew(9).at(y, 0);
            c.yes("60 beds, " + 9 * (i + 1) + " heads", y.rest(i));
        }
    }

    private static void p02ThereAreTwelve() {
        c.promise("2 stop: there are 12");
        HullLine x = new HullLine();
        for (int i = 0; i < 12; i++) {
            c.eq("stop", x.stop(1 + i % 4, i * 5, i % 2 == 0), i);
        }
        c.eq("a 13th", x.stop(1, 0, true), NONE);
        c.eq("a 13th again", x.stop(1, 0, true), NONE);
        c.eq("stops", x.count(1), 12);
        c.eq("stop 11", x.free(11), 4);
        c.eq("no stop 12", x.free(12), NONE);
        for (int i = 0; i < 12; i++) {
            c.eq("buoys of " + i, x.free(i), 1 + i % 4);
        }
    }

    private static void p02NothingHappens() {
        c.promise("2 stop: NONE, and nothing happens");
        b.nothing("0 buoys", Bounds::busy, x -> x.stop(0, 0, true), NONE);
        b.nothing("5 buoys", Bounds::busy, x -> x.stop(5, 0, true), NONE);
        b.nothing("-1 beds", Bounds::busy, x -> x.stop(1, -1, true), NONE);
        b.nothing("61 beds", Bounds::busy, x -> x.stop(1, 61, true), NONE);
        b.nothing("a 13th", x -> {
            Bounds.busy(x);
            for (int i = 3; i < 12; i++) {
                x.stop(1, 1, true);
            }
        }, x -> x.stop(4, 9, true), NONE);
        HullLine x = new HullLine();
        x.stop(0, 0, true);
        x.stop(1, 61, true);
        c.eq("no number is used up", x.stop(1, 0, true), 0);
    }

    // ---- 3

    private static void p03Miles() {
        c.promise("3 leg: MILES 20 .. 900");
        b.range("miles", 20, 900, 0, NONE, v -> Bounds.line(2).leg(0, 1, v));
        HullLine x = Bounds.pair(20);
        x.leg(0, 1, 900);
        new Kind().at(x, 0);
        x.fuel(0, 20);
        c.eq("20 miles", x.point(0, 0), 10);
        c.eq("900 miles", x.point(0, 1), 450);
    }

    private static void p03TwoStops() {
        c.promise("3 leg: no such two STOPS");
        b.range("first stop", 0, 11, 0, NONE, v -> Bounds.line(12).leg(v, v == 0 ? 1 : 0, 100));
        b.range("second stop", 0, 11, 0, NONE, v -> Bounds.line(12).leg(v == 0 ? 1 : 0, v, 100));
        b.outside("first of two", 0, 1, NONE, v -> Bounds.line(2).leg(v, 0, 100));
        b.outside("second of two", 0, 1, NONE, v -> Bounds.line(2).leg(0, v, 100));
        HullLine x = Bounds.line(12);
        for (int i = 0; i < 12; i++) {
            c.eq("from " + i + " to itself", x.leg(i, i, 100), NONE);
        }
        c.eq("legs", x.count(2), 0);
    }

    private static void p03ThereAreThirty() {
        c.promise("3 leg: there are 30");
        HullLine x = Bounds.line(2);
        for (int i = 0; i < 30; i++) {
            c.eq("leg", x.leg(i % 2, 1 - i % 2, 120 + i), i);
        }
        c.eq("a 31st", x.leg(0, 1, 120), NONE);
        c.eq("legs", x.count(2), 30);
        c.eq("leg 29 takes a wind", x.wind(29, 0, 5), 0);
        c.eq("leg 30 is none", x.wind(30, 0, 5), NONE);
        new Kind().at(x, 0);
        x.fuel(0, 5);
        c.eq("leg 29", x.lift(0, 29), 78);
    }

    private static void p03NothingHappens() {
        c.promise("3 leg: NONE");
        b.nothing("19 miles", Bounds::busy, x -> x.leg(0, 1, 19), NONE);
        b.nothing("901 miles", Bounds::busy, x -> x.leg(0, 1, 901), NONE);
        b.nothing("to itself", Bounds::busy, x -> x.leg(1, 1, 100), NONE);
        b.nothing("to no stop", Bounds::busy, x -> x.leg(0, 3, 100), NONE);
        b.nothing("from no stop", Bounds::busy, x -> x.leg(-1, 0, 100), NONE);
        b.nothing("a 31st", x -> {
            Bounds.busy(x);
            for (int i = 3; i < 30; i++) {
                x.leg(0, 1, 900);
            }
        }, x -> x.leg(0, 1, 20), NONE);
        HullLine x = Bounds.line(2);
        x.leg(0, 0, 100);
        x.leg(0, 1, 19);
        c.eq("no number is used up", x.leg(0, 1, 20), 0);
    }

    // ---- 4

    private static HullLine bare(int stops) {
        HullLine x = new HullLine();
        for (int i = 0; i < stops; i++) {
            x.stop(4, 60, true);
        }
        return x;
    }

    private static void p04Number() {
        c.promise("4 drums: 1 .. 999");
        c.eq("1", bare(1).drums(0, 1), 1);
        c.eq("999", bare(1).drums(0, 999), 999);
        b.outside("drums", 1, 999, NONE, v -> bare(1).drums(0, v));
    }

    private static void p04NoSuchStop() {
        c.promise("4 drums: there is none such");
        b.range("stop", 0, 11, 7, NONE, v -> bare(12).drums(v, 7));
        b.outside("stop of three", 0, 2, NONE, v -> bare(3).drums(v, 7));
    }

    private static void p04NoMoreThan999() {
        c.promise("4 drums: more than 999");
        HullLine x = bare(2);
        c.eq("998", x.drums(0, 998), 998);
        c.eq("2 more would be 1000", x.drums(0, 2), NONE);
        c.eq("999 more", x.drums(0, 999), NONE);
        c.eq("still", x.count(8), 998);
        c.eq("1 more", x.drums(0, 1), 999);
        c.eq("full", x.drums(0, 1), NONE);
        c.eq("each stop has its own", x.drums(1, 999), 999);
        c.eq("in all", x.count(8), 1998);
        new Kind().at(x, 0);
        x.fuel(0, 3);
        c.eq("4 more, where 3 are gone", x.drums(0, 4), NONE);
        c.eq("3 more, where 3 are gone", x.drums(0, 3), 999);
    }

    private static void p04NoneAtFirst() {
        c.promise("4 drums: 0 at first");
        HullLine x = bare(1);
        new Kind().at(x, 0);
        c.eq("in all", x.count(8), 0);
        c.eq("none to pump", x.fuel(0, 1), NONE);
        c.eq("one comes", x.drums(0, 1), 1);
        c.eq("one to pump, 50 gallons", x.fuel(0, 1), 50);
    }

    private static void p04NothingHappens() {
        c.promise("4 drums: NONE");
        b.nothing("0", Bounds::busy, x -> x.drums(0, 0), NONE);
        b.nothing("-1", Bounds::busy, x -> x.drums(0, -1), NONE);
        b.nothing("1000", Bounds::busy, x -> x.drums(2, 1000), NONE);
        b.nothing("too many with those that are there", Bounds::busy, x -> x.drums(0, 999), NONE);
        b.nothing("no such stop", Bounds::busy, x -> x.drums(3, 1), NONE);
        b.nothing("no such stop", Bounds::busy, x -> x.drums(-1, 1), NONE);
    }

    // ---- 5

    private static void p05Ranges() {
        c.promise("5 boat: a number is not as told");
        b.range("EMPTY", 1000, 40000, 0, NONE, v -> new Kind().empty(v).at(Bounds.line(1), 0));
        b.range("LIFT", 1000, 90000, 0, NONE, v -> new Kind().lift(v).at(Bounds.line(1), 0));
        b.range("SPEED", 60, 200, 0, NONE, v -> new Kind().speed(v).at(Bounds.line(1), 0));
        b.range("BURN", 10, 300, 0, NONE, v -> new Kind().burn(v).at(Bounds.line(1), 0));
        b.range("TANK", 50, 3000, 0, NONE, v -> new Kind().tank(v).at(Bounds.line(1), 0));
        b.range("HOLD", 0, 20000, 0, NONE, v -> new Kind().hold(v).at(Bounds.line(1), 0));
        b.range("CREW", 2, 9, 0, NONE, v -> new Kind().crew(v).at(Bounds.line(1), 0));
        c.eq("all the least", Bounds.line(1).boat(0, 1000, 1000, 60, 10, 50, 0, 2), 0);
        c.eq("all the most", Bounds.line(1).boat(0, 40000, 90000, 200, 300, 3000, 20000, 9), 0);
    }

    private static void p05NoSuchStop() {
        c.promise("5 boat: no such STOP");
        b.range("stop", 0, 11, 0, NONE, v -> new Kind().at(Bounds.line(12), v));
        b.outside("stop of two", 0, 1, NONE, v -> new Kind().at(Bounds.line(2), v));
    }

    private static void p05ThereAreSix() {
        c.promise("5 boat: there are 6");
        HullLine x = Bounds.line(3);
        for (int i = 0; i < 6; i++) {
            c.eq("boat", new Kind().at(x, i % 2), i);
        }
        c.eq("a 7th, where all buoys are free", new Kind().at(x, 2), NONE);
        c.eq("boats", x.count(3), 6);
        c.eq("its buoy is free still", x.free(2), 4);
        c.eq("boat 5", x.of(5, 1), 1);
        c.noOf(x, 6, 0);
    }

    private static void p05NoFreeBuoy() {
        c.promise("5 boat: no free BUOY");
        for (int buoys = 1; buoys <= 4; buoys++) {
            HullLine x = new HullLine();
            x.stop(buoys, 0, true);
            for (int i = 0; i < buoys; i++) {
                c.eq("boat " + i + " at " + buoys + " buoys", new Kind().at(x, 0), i);
            }
            c.eq("one more", new Kind().at(x, 0), NONE);
            c.eq("free", x.free(0), 0);
            c.eq("boats", x.count(3), buoys);
        }
    }

    private static void p05BuoyOfOneThatLeftOrSank() {
        c.promise("5 boat: no free BUOY");
        HullLine x = new HullLine();
        x.stop(1, 0, true);
        x.stop(1, 0, true);
        x.leg(0, 1, 120);
        x.drums(0, 9);
        new Kind().at(x, 0);
        x.fuel(0, 2);
        c.eq("taken", new Kind().at(x, 0), NONE);
        x.lift(0, 0);
        c.eq("left", new Kind().at(x, 0), 1);
        c.eq("one in the air takes none", new Kind().at(x, 1), 2);
        x.go(100);
        c.eq("circles", x.of(0, 0), 1);
        x.go(1);
        c.eq("sunk", x.of(0, 0), 2);
        c.eq("taken", new Kind().at(x, 1), NONE);
        x.drums(1, 9);
        x.fuel(2, 2);
        c.eq("leaves", x.lift(2, 0), 60);
        c.eq("a sunk one takes none", new Kind().at(x, 1), 3);
    }

    private static void p05AsItComes() {
        c.promise("5 boat: MOORED, with an empty TANK");
        HullLine x = Bounds.pair(120);
        new Kind().at(x, 1);
        int[] due = {0, 1, 0, 10000, 0, -1, 0, -1, 0, 0};
        for (int i = 0; i < due.length; i++) {
            c.eq("of(0, " + i + ")", x.of(0, i), due[i]);
        }
        c.eq("no fuel", x.lift(0, 0), -4);
        c.eq("free", x.free(1), 3);
    }

    private static void p05NothingHappens() {
        c.promise("5 boat: NONE");
        b.nothing("EMPTY 999", Bounds::busy, x -> new Kind().empty(999).at(x, 0), NONE);
        b.nothing("LIFT 90001", Bounds::busy, x -> new Kind().lift(90001).at(x, 0), NONE);
        b.nothing("SPEED 59", Bounds::busy, x -> new Kind().speed(59).at(x, 0), NONE);
        b.nothing("BURN 301", Bounds::busy, x -> new Kind().burn(301).at(x, 0), NONE);
        b.nothing("TANK 49", Bounds::busy, x -> new Kind().tank(49).at(x, 0), NONE);
        b.nothing("HOLD -1", Bounds::busy, x -> new Kind().hold(-1).at(x, 0), NONE);
        b.nothing("CREW 10", Bounds::busy, x -> new Kind().crew(10).at(x, 0), NONE);
        b.nothing("no such stop", Bounds::busy, x -> new Kind().at(x, 3), NONE);
        b.nothing("no free buoy", Bounds::busy, x -> new Kind().at(x, 2), NONE);
        b.nothing("a 7th", x -> {
            Bounds.busy(x);
            new Kind().at(x, 0);
        }, x -> new Kind().at(x, 0), NONE);
    }

    // ---- 30

    private static void p30NoOthers() {
        c.promise("30 count: NONE for others");
        b.outside("what", 0, 13, NONE, v -> {
            HullLine x = new HullLine();
            Bounds.busy(x);
            return x.count(v);
        });
        c.eq("-1", new HullLine().count(-1), NONE);
        c.eq("0", new HullLine().count(0), 0);
        c.eq("13", new HullLine().count(13), 0);
        c.eq("14", new HullLine().count(14), NONE);
    }

    private static void p30Full() {
        c.promise("30 count: all at their most");
        HullLine x = new HullLine();
        for (int i = 0; i < 12; i++) {
            x.stop(4, 0, true);
            x.drums(i, 999);
        }
        c.eq("drums", x.count(8), 12 * 999);
        for (int i = 0; i < 30; i++) {
            x.leg(0, 1, 100);
            x.bag(0, 1, 1, 0);
        }
        for (int i = 0; i < 6; i++) {
            new Kind().tank(3000).at(x, i);
            x.fuel(i, 61);
        }
        for (int i = 0; i < 160; i++) {
            x.swell(0, 0, 0);
        }
        for (int i = 0; i < 100; i++) {
            x.go(i == 0 ? 1439 : 1440);
        }
        Check.rules(x, Bounds.times("lift if day=9;", 16));
        for (int i = 0; i < 15; i++) {
            x.feed(0, 0, 0, 0, 0);
        }
        int[] due = {143999, 12, 30, 6, 160, 30, 0, 18000, 12 * 999 - 6 * 61, 0, 300, 0, 300, 16};
        for (int i = 0; i < due.length; i++) {
            c.eq("count(" + i + ")", x.count(i), due[i]);
        }
    }

    // ---- 31

    private static void p31NoSuchStop() {
        c.promise("31 free: no such one");
        b.range("stop", 0, 11, 4, NONE, v -> Bounds.line(12).free(v));
        b.range("stop of one", 0, 0, 4, NONE, v -> Bounds.line(1).free(v));
        c.eq("of none", new HullLine().free(0), NONE);
    }

    private static void p31AllAndNone() {
        c.promise("31 free: all, and none");
        HullLine x = Bounds.line(2);
        for (int i = 0; i <= 4; i++) {
            c.eq("with " + i + " boats", x.free(0), 4 - i);
            c.eq("at the other stop", x.free(1), 4);
            new Kind().at(x, 0);
        }
        c.eq("a fifth finds none", x.free(0), 0);
    }

    private static void p31AirAndSunkTakeNone() {
        c.promise("31 free: of the MOORED ones alone");
        HullLine x = new HullLine();
        x.stop(1, 0, true);
        x.stop(1, 0, true);
        x.leg(0, 1, 120);
        x.drums(0, 9);
        new Kind().at(x, 0);
        c.eq("moored", x.free(0), 0);
        x.fuel(0, 2);
        Check.rules(x, "land if day=9;");
        x.lift(0, 0);
        c.eq("lifted", x.free(0), 1);
        x.go(60);
        c.eq("circles", x.free(1), 1);
        x.go(41);
        c.eq("sunk", x.of(0, 0), 2);
        c.eq("sunk", x.free(1), 1);
        x.raise(0);
        c.eq("raised", x.free(1), 0);
    }
}
