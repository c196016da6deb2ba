/** Promises 14 to 17 at the boundaries that the document names: fuel, lifting, turning, the point. */
public final class BoundsFlightTest {
    private static final Check c = new Check("BoundsFlightTest");
    private static final Bounds b = new Bounds(c);
    private static final int NONE = HullLine.NONE;

    public static void main(String[] args) {
        p14NoSuchBoat();
        p14NumberOfDrums();
        p14TankFull();
        p14NothingHappens();
        p15NoSuchOnes();
        p15NotAtAnEnd();
        p15MinutesRoundedUp();
        p15TwentyMilesAnHourAtLeast();
        p15WaterToThePound();
        p15WaterRoundedDown();
        p15WeightOfAll();
        p15NothingFromAboveSix();
        p15FuelToTheGallon();
        p15DutyToTheMinute();
        p15RestToTheMinute();
        p15FirstOfAllCauses();
        p15CauseTillItLifts();
        p15RefusedAndElseNothing();
        p15NoneAndNothing();
        p15BuoyIsFree();
        p15MinutesOfWind();
        p16AMinuteBehindItsLift();
        p16AheadOfItsEnd();
        p16Once();
        p16BackWhereItLiftedFrom();
        p16FuelToTheGallon();
        p16BackRoundedUp();
        p16BackTwentyMilesAnHourAtLeast();
        p16ThePoint();
        p16NothingHappens();
        p17NoSuchOnes();
        p17NoSuchE();
        p17NoMoreThanMinutes();
        p17WhateverForbidsTheLift();
        p17RoundedUp();
        p17AsksAlone();
        c.finish();
    }

    // ---- 14

    private static HullLine pump(int drums, int tank) {
        HullLine x = new HullLine();
        x.stop(4, 0, true);
        x.stop(4, 0, true);
        x.leg(0, 1, 120);
        if (drums > 0) {
            x.drums(0, drums);
        }
        x.drums(1, 999);
        new Kind().tank(tank).at(x, 0);
        return x;
    }

    private static void p14NoSuchBoat() {
        c.promise("14 fuel: no such BOAT");
        b.range("boat", 0, 0, 50, NONE, v -> pump(7, 1000).fuel(v, 1));
        HullLine x = new HullLine();
        Bounds.busy(x);
        c.eq("in the air", x.fuel(Bounds.FLIES, 1), NONE);
        c.eq("sunk", x.fuel(Bounds.SANK, 1), NONE);
        c.eq("resting, broken", x.fuel(Bounds.RESTS, 1), 194);
    }

    private static void p14NumberOfDrums() {
        c.promise("14 fuel: n below 1, not so many DRUMS");
        c.eq("1 of 7", pump(7, 1000).fuel(0, 1), 50);
        c.eq("7 of 7", pump(7, 1000).fuel(0, 7), 350);
        b.outside("n of 7", 1, 7, NONE, v -> pump(7, 1000).fuel(0, v));
        c.eq("1 of 0", pump(0, 1000).fuel(0, 1), NONE);
        c.eq("999 of 999", pump(999, 3000).fuel(0, 999), 3000);
        c.eq("1000 of 999", pump(999, 3000).fuel(0, 1000), NONE);
        HullLine x = pump(2, 1000);
        x.fuel(0, 1);
        c.eq("2, where 1 is left", x.fuel(0, 2), NONE);
        c.eq("1, where 1 is left", x.fuel(0, 1), 100);
        c.eq("1, where none is left", x.fuel(0, 1), NONE);
        c.eq("those of the other stop stay", x.count(8), 999);
    }

    private static void p14TankFull() {
        c.promise("14 fuel: what TANK has no room for is lost");
        int[][] due = {{50, 50, 50}, {99, 99, 51}, {100, 100, 50}, {101, 101, 49}, {149, 149, 1}, {150, 150, 0}, {151, 150, 0}};
        for (int[] d : due) {
            HullLine x = pump(3, d[0]);
            x.fuel(0, 1);
            int second = x.fuel(0, 1);
            c.eq("a second drum, tank of " + d[0], second, Math.min(100, d[0]));
            c.eq("a third drum, tank of " + d[0], x.fuel(0, 1), d[1]);
            c.eq("lost, tank of " + d[0], x.count(10), 150 - d[1]);
            c.eq("in tanks", x.count(7), d[1]);
            c.eq("drums", x.count(8), 999);
            HullLine y = pump(3, d[0]);
            c.eq("three at once, tank of " + d[0], y.fuel(0, 3), d[1]);
            c.eq("lost, tank of " + d[0], y.count(10), 150 - d[1]);
        }
        HullLine x = pump(999, 3000);
        x.fuel(0, 60);
        c.eq("60 drums fill a tank of 3000", x.count(10), 0);
        c.eq("a full tank takes nothing", x.fuel(0, 1), 3000);
        c.eq("lost", x.count(10), 50);
    }

    private static void p14NothingHappens() {
        c.promise("14 fuel: NONE, and nothing happens");
        b.nothing("0", Bounds::busy, x -> x.fuel(Bounds.WAITS, 0), NONE);
        b.nothing("-1", Bounds::busy, x -> x.fuel(Bounds.WAITS, -1), NONE);
        b.nothing("more than there are", Bounds::busy, x -> x.fuel(Bounds.WAITS, 29), NONE);
        b.nothing("where there are none", Bounds::busy, x -> x.fuel(Bounds.IN_THE_WAY, 1), NONE);
        b.nothing("no such boat", Bounds::busy, x -> x.fuel(5, 1), NONE);
        b.nothing("in the air", Bounds::busy, x -> x.fuel(Bounds.FLIES, 1), NONE);
        b.nothing("sunk", x -> {
            Bounds.busy(x);
            x.drums(2, 5);
        }, x -> x.fuel(Bounds.SANK, 1), NONE);
    }

    // ---- 15

    private static void p15NoSuchOnes() {
        c.promise("15 lift: NONE: no such BOAT, LEG");
        b.range("boat", 0, 0, 60, NONE, v -> Bounds.pairAnd(new Kind()).lift(v, 0));
        b.range("leg", 0, 0, 60, NONE, v -> Bounds.pairAnd(new Kind()).lift(0, v));
        b.range("leg of 30", 0, 29, 50, NONE, v -> {
            HullLine x = Bounds.line(2);
            for (int i = 0; i < 30; i++) {
                x.leg(0, 1, 100);
            }
            new Kind().at(x, 0);
            x.fuel(0, 2);
            return x.lift(0, v);
        });
    }

    private static void p15NotAtAnEnd() {
        c.promise("15 lift: NONE: it is not MOORED at an end of it");
        HullLine x = Bounds.line(4);
        x.leg(1, 2, 100);
        x.leg(0, 3, 100);
        new Kind().at(x, 0);
        x.fuel(0, 4);
        c.eq("another leg", x.lift(0, 0), NONE);
        c.eq("no cause by that", x.of(0, 5), NONE);
        c.eq("its own leg", x.lift(0, 1), 50);
        c.eq("in the air", x.lift(0, 1), NONE);
        c.eq("in the air", x.lift(0, 0), NONE);
        x.go(50);
        c.eq("from the other end", x.lift(0, 1), 50);
        HullLine y = new HullLine();
        Bounds.busy(y);
        c.eq("sunk", y.lift(Bounds.SANK, 2), NONE);
    }

    private static int minutes(int miles, int speed, int wind) {
        HullLine x = Bounds.pair(miles);
        new Kind().speed(speed).tank(3000).at(x, 0);
        x.fuel(0, 60);
        x.wind(0, 0, wind);
        return x.lift(0, 0);
    }

    private static void p15MinutesRoundedUp() {
        c.promise("15 lift: MILES times 60 by G, rounded up");
        c.eq("20 at 60", minutes(20, 60, 0), 20);
        c.eq("20 at 61", minutes(20, 61, 0), 20);
        c.eq("21 at 61", minutes(21, 61, 0), 21);
        c.eq("61 at 61", minutes(61, 61, 0), 60);
        c.eq("62 at 61", minutes(62, 61, 0), 61);
        c.eq("60 at 61", minutes(60, 61, 0), 60);
        c.eq("199 at 200", minutes(199, 200, 0), 60);
        c.eq("197 at 200", minutes(197, 200, 0), 60);
        c.eq("196 at 200", minutes(196, 200, 0), 59);
        c.eq("200 at 200", minutes(200, 200, 0), 60);
        c.eq("201 at 200", minutes(201, 200, 0), 61);
        c.eq("20 at 260", minutes(20, 200, 60), 5);
        c.eq("21 at 260", minutes(21, 200, 60), 5);
        c.eq("22 at 260", minutes(22, 200, 60), 6);
        c.eq("26 at 260", minutes(26, 200, 60), 6);
        c.eq("27 at 260", minutes(27, 200, 60), 7);
    }

    private static void p15TwentyMilesAnHourAtLeast() {
        c.promise("15 lift: G 20 at least");
        c.eq("140 at 60 less 60", minutes(140, 60, -60), 420);
        c.eq("140 at 60 less 41", minutes(140, 60, -41), 420);
        c.eq("140 at 60 less 40", minutes(140, 60, -40), 420);
        c.eq("140 at 60 less 39", minutes(140, 60, -39), 400);
        c.eq("140 at 79 less 60", minutes(140, 79, -60), 420);
        c.eq("140 at 80 less 60", minutes(140, 80, -60), 420);
        c.eq("140 at 81 less 60", minutes(140, 81, -60), 400);
        c.eq("280 at 60 less 60", minutes(280, 60, -60), 840);
        c.eq("281 at 60 less 60", minutes(281, 60, -60), -5);
    }

    /** The boat is filled to 60 gallons, 360 pounds. */
    private static int water(int weight, int lift, int swell) {
        HullLine x = Bounds.pair(120);
        x.swell(0, 0, swell);
        new Kind().empty(weight - 360).lift(lift).tank(60).at(x, 0);
        x.fuel(0, 2);
        return x.lift(0, 0);
    }

    private static void p15WaterToThePound() {
        c.promise("15 lift: -3 the water: it lifts less than its WEIGHT");
        int[] lifts = {25000, 30000, 40000};
        int[] steps = {2, 1, 0, 1, 2, 3, 4};
        for (int lift : lifts) {
            for (int swell = 0; swell <= 6; swell++) {
                int lifted = lift - steps[swell] * (lift / 25);
                c.eq(lift + " from " + swell + ", a pound less", water(lifted - 1, lift, swell), 60);
                c.eq(lift + " from " + swell + ", just so much", water(lifted, lift, swell), 60);
                c.eq(lift + " from " + swell + ", a pound more", water(lifted + 1, lift, swell), -3);
            }
        }
        HullLine x = Bounds.pair(120);
        new Kind().empty(1000).lift(1000).at(x, 0);
        x.swell(0, 0, 2);
        c.eq("1000 lifts 1000; no fuel", x.lift(0, 0), -4);
        x.fuel(0, 1);
        c.eq("and no gallon more", x.lift(0, 0), -3);
    }

    private static void p15WaterRoundedDown() {
        c.promise("15 lift: a 25th of LIFT (rounded down) for each");
        int[][] due = {{12500, 500}, {12501, 500}, {12524, 500}, {12525, 501}, {12499, 499}, {90000, 3600}, {1424, 56}, {1425, 57}};
        for (int[] d : due) {
            for (int swell : new int[] {0, 1, 3, 6}) {
                int lifted = d[0] - Math.abs(swell - 2) * d[1];
                if (lifted - 360 >= 1000 && lifted - 360 < 40000) {
                    c.eq(d[0] + " from " + swell, water(lifted, d[0], swell), 60);
                    c.eq(d[0] + " from " + swell + ", a pound more", water(lifted + 1, d[0], swell), -3);
                }
            }
        }
    }

    private static void p15WeightOfAll() {
        c.promise("15 lift: WEIGHT: EMPTY, 6 for each gallon of FUEL, and what its BAGS are told to weigh");
        for (int more = 0; more <= 1; more++) {
            HullLine x = Bounds.pair(120);
            x.swell(0, 0, 2);
            new Kind().lift(12000).tank(100).at(x, 0);
            x.fuel(0, 2);
            x.bag(0, 1, 1000, 0);
            x.bag(0, 1, 400 + more, 0);
            x.load(0, 0);
            x.load(1, 0);
            c.eq("weight", x.of(0, 3), 12000 + more);
            c.eq(more + " too much", x.lift(0, 0), more == 0 ? 60 : -3);
        }
    }

    private static void p15NothingFromAboveSix() {
        c.promise("15 lift: nothing from above 6");
        for (int swell = 0; swell <= 9; swell++) {
            HullLine x = Bounds.pair(120);
            x.swell(0, 0, swell);
            new Kind().empty(1000).lift(90000).at(x, 0);
            x.fuel(0, 2);
            c.eq("from " + swell, x.lift(0, 0), swell <= 6 ? 60 : -3);
        }
    }

    /** So many miles at 120 miles an hour, with a full tank. */
    private static int tank(int miles, int burn, int tank) {
        HullLine x = Bounds.pair(miles);
        new Kind().burn(burn).tank(tank).at(x, 0);
        x.fuel(0, 60);
        return x.lift(0, 0);
    }

    private static void p15FuelToTheGallon() {
        c.promise("15 lift: -4 FUEL: it has less than MINUTES burn, rounded up");
        c.eq("10 minutes at 300: 50", tank(20, 300, 50), 10);
        c.eq("11 minutes at 300: 55, of 54", tank(22, 300, 54), -4);
        c.eq("11 minutes at 300: 55, of 55", tank(22, 300, 55), 11);
        c.eq("11 minutes at 295: 54 and a little, of 54", tank(22, 295, 54), -4);
        c.eq("11 minutes at 295: 54 and a little, of 55", tank(22, 295, 55), 11);
        c.eq("11 minutes at 299: nearly 55, of 54", tank(22, 299, 54), -4);
        c.eq("11 minutes at 299: nearly 55, of 55", tank(22, 299, 55), 11);
        c.eq("60 minutes at 60, of 59", tank(120, 60, 59), -4);
        c.eq("60 minutes at 60, of 60", tank(120, 60, 60), 60);
        c.eq("61 minutes at 61: 62 and a little, of 62", tank(122, 61, 62), -4);
        c.eq("61 minutes at 61: 62 and a little, of 63", tank(122, 61, 63), 61);
        HullLine x = Bounds.pair(20);
        new Kind().at(x, 0);
        c.eq("no fuel", x.lift(0, 0), -4);
    }

    private static HullLine longLegs() {
        HullLine x = Bounds.pair(840);
        x.leg(0, 1, 841);
        x.leg(0, 1, 420);
        x.leg(0, 1, 421);
        new Kind().speed(60).burn(10).at(x, 0);
        x.fuel(0, 20);
        return x;
    }

    private static void p15DutyToTheMinute() {
        c.promise("15 lift: -5 CREW: DUTY and MINUTES are more than 840");
        c.eq("840 at once", longLegs().lift(0, 0), 840);
        c.eq("841 at once", longLegs().lift(0, 1), -5);
        HullLine x = longLegs();
        x.lift(0, 2);
        x.go(420);
        c.eq("duty", x.of(0, 4), 420);
        c.eq("420 and 421", x.lift(0, 3), -5);
        c.eq("420 and 420", x.lift(0, 2), 420);
        x.go(420);
        c.eq("duty", x.of(0, 4), 840);
        c.eq("840 and 420", x.lift(0, 2), -5);
        c.yes("a rest", x.rest(0));
        x.go(480);
        c.eq("840 behind a rest", x.lift(0, 0), 840);
    }

    private static void p15RestToTheMinute() {
        c.promise("15 lift: -5 CREW: it RESTS");
        HullLine x = Bounds.pairAnd(new Kind());
        x.go(7);
        x.rest(0);
        c.eq("at once", x.lift(0, 0), -5);
        x.go(479);
        c.eq("479 minutes", x.lift(0, 0), -5);
        x.go(1);
        c.eq("480 minutes", x.lift(0, 0), 60);
    }

    private static void p15FirstOfAllCauses() {
        c.promise("15 lift: refused, the first of");
        for (int set = 0; set < 32; set++) {
            HullLine x = Bounds.pair(120);
            new Kind().at(x, 0);
            if ((set & 1) != 0) {
                Check.rules(x, "lift if day=9;");
            }
            if ((set & 2) != 0) {
                x.swell(0, 0, 7);
            }
            if ((set & 4) == 0) {
                x.fuel(0, 2);
            }
            if ((set & 8) != 0) {
                x.rest(0);
            }
            if ((set & 16) != 0) {
                x.breaks(0, true);
            }
            int first = Integer.numberOfTrailingZeros(set);
            c.eq("causes " + Integer.toBinaryString(set), x.lift(0, 0), set == 0 ? 60 : -2 - first);
            c.eq("its cause", x.of(0, 5), set == 0 ? NONE : first);
            c.eq("lifts", x.count(6), set == 0 ? 1 : 0);
        }
    }

    private static void p15CauseTillItLifts() {
        c.promise("15 lift: its CAUSE from then on, till it lifts");
        HullLine x = Bounds.pair(120);
        new Kind().at(x, 0);
        c.eq("none at first", x.of(0, 5), NONE);
        x.lift(0, 0);
        c.eq("fuel", x.of(0, 5), 2);
        x.fuel(0, 4);
        c.eq("fuel still", x.of(0, 5), 2);
        x.breaks(0, true);
        x.lift(0, 0);
        c.eq("broken, the last told", x.of(0, 5), 4);
        x.breaks(0, false);
        x.go(100);
        c.eq("broken still", x.of(0, 5), 4);
        x.lift(0, 5);
        c.eq("broken still, behind no such leg", x.of(0, 5), 4);
        x.lift(0, 0);
        c.eq("none, as it lifts", x.of(0, 5), NONE);
        x.go(60);
        c.eq("none, landed", x.of(0, 5), NONE);
    }

    private static void p15RefusedAndElseNothing() {
        c.promise("15 lift: refused, and nothing but its CAUSE changes");
        HullLine x = Bounds.pairAnd(new Kind().tank(50));
        x.bag(0, 1, 10, 0);
        x.load(0, 0);
        c.eq("refused", x.lift(0, 0), -4);
        int[] boat = {0, 0, 50, 10310, 0, 2, 0, -1, 0, 0};
        for (int i = 0; i < boat.length; i++) {
            c.eq("of(0, " + i + ")", x.of(0, i), boat[i]);
        }
        c.eq("its buoy is taken", x.free(0), 3);
        c.eq("lifts", x.count(6), 0);
        for (int i = 10; i <= 16; i++) {
            c.eq("mail(0, " + i + ")", x.mail(0, i), 0);
        }
        b.nothing("refused again for the same cause", Bounds::busy, y -> y.lift(Bounds.WAITS, 0), -4);
        b.nothing("refused again for the same cause", Bounds::busy, y -> y.lift(Bounds.RESTS, 0), -5);
    }

    private static void p15NoneAndNothing() {
        c.promise("15 lift: NONE");
        b.nothing("no such boat", Bounds::busy, x -> x.lift(5, 0), NONE);
        b.nothing("no such leg", Bounds::busy, x -> x.lift(Bounds.WAITS, 3), NONE);
        b.nothing("not at an end", Bounds::busy, x -> x.lift(Bounds.WAITS, 1), NONE);
        b.nothing("in the air", Bounds::busy, x -> x.lift(Bounds.FLIES, 0), NONE);
        b.nothing("sunk", Bounds::busy, x -> x.lift(Bounds.SANK, 2), NONE);
    }

    private static void p15BuoyIsFree() {
        c.promise("15 lift: its BUOY is free");
        HullLine x = new HullLine();
        x.stop(1, 0, true);
        x.stop(1, 0, true);
        x.leg(0, 1, 120);
        x.drums(0, 9);
        new Kind().at(x, 0);
        x.fuel(0, 2);
        c.eq("taken", x.free(0), 0);
        c.eq("refused: taken still", x.lift(0, 1), NONE);
        c.eq("taken", x.free(0), 0);
        x.lift(0, 0);
        c.eq("free at once", x.free(0), 1);
        c.eq("and none taken where it goes", x.free(1), 1);
    }

    private static int windMinutes(int wind, int miles) {
        HullLine x = Bounds.pair(miles);
        x.wind(0, 0, wind);
        new Kind().at(x, 0);
        x.fuel(0, 20);
        x.bag(0, 1, 10, 0);
        x.bag(0, 1, 10, 0);
        x.bag(0, 1, 10, 0);
        x.load(0, 0);
        x.load(2, 0);
        x.lift(0, 0);
        c.eq("of a bag ashore", x.mail(1, 15), 0);
        c.eq("of each bag aboard", x.mail(0, 15), x.mail(2, 15));
        return x.mail(0, 15);
    }

    private static void p15MinutesOfWind() {
        c.promise("15 lift: MINUTES above those of a WIND of 0 are WIND, at once");
        c.eq("no wind", windMinutes(0, 120), 0);
        c.eq("no wind, 121 minutes", windMinutes(0, 242), 0);
        c.eq("a good wind", windMinutes(1, 120), 0);
        c.eq("a good wind", windMinutes(60, 120), 0);
        c.eq("120 at 119: 60.5", windMinutes(-1, 120), 1);
        c.eq("119 at 119 and at 120: 60 and 59.5", windMinutes(-1, 119), 0);
        c.eq("120 at 118: 61.02", windMinutes(-2, 120), 2);
        c.eq("120 at 60", windMinutes(-60, 120), 60);
    }

    // ---- 16

    private static void p16AMinuteBehindItsLift() {
        c.promise("16 turn: a MINUTE and more behind its LIFT");
        HullLine x = Bounds.pairAnd(new Kind());
        x.lift(0, 0);
        c.eq("at once", x.turn(0), NONE);
        x.go(1);
        c.eq("a minute", x.turn(0), 2);
        c.eq("goes back", x.of(0, 1), 0);
        x.go(1);
        c.eq("landed", x.of(0, 0), 0);
        c.eq("where it came from", x.of(0, 1), 0);
        c.eq("2 gallons", x.of(0, 2), 998);
    }

    private static HullLine flown(int minutes, Kind kind) {
        HullLine x = Bounds.pairAnd(kind);
        x.swell(1, 0, 8);
        x.lift(0, 0);
        x.go(minutes);
        return x;
    }

    private static void p16AheadOfItsEnd() {
        c.promise("16 turn: ahead of its MINUTES' end");
        c.eq("58", flown(58, new Kind()).turn(0), 116);
        c.eq("59", flown(59, new Kind()).turn(0), 118);
        c.eq("60, circling", flown(60, new Kind()).turn(0), NONE);
        c.eq("61, circling", flown(61, new Kind()).turn(0), NONE);
        HullLine x = Bounds.pairAnd(new Kind());
        x.lift(0, 0);
        x.go(60);
        c.eq("landed", x.turn(0), NONE);
    }

    private static void p16Once() {
        c.promise("16 turn: once");
        HullLine x = flown(20, new Kind());
        c.eq("turned", x.turn(0), 40);
        c.eq("at once again", x.turn(0), NONE);
        x.go(1);
        c.eq("a minute behind", x.turn(0), NONE);
        c.eq("goes back still", x.of(0, 1), 0);
        c.eq("of 40", x.of(0, 7), 40);
        x.go(19);
        c.eq("landed", x.of(0, 0), 0);
        c.eq("moored", x.turn(0), NONE);
        x.lift(0, 0);
        x.go(5);
        c.eq("a new lift may be turned", x.turn(0), 10);
        HullLine y = Bounds.pairAnd(new Kind());
        Check.rules(y, "land if day=9;");
        y.lift(0, 0);
        y.go(10);
        y.turn(0);
        y.go(10);
        c.eq("circles where it came from", y.of(0, 0) * 10 + y.of(0, 1), 10);
        c.eq("and can't be turned", y.turn(0), NONE);
        y.go(1);
        c.eq("nor later", y.turn(0), NONE);
    }

    private static void p16BackWhereItLiftedFrom() {
        c.promise("16 turn: back to where it lifted from");
        HullLine x = Bounds.pairAnd(new Kind());
        x.lift(0, 0);
        x.go(60);
        x.lift(0, 0);
        x.go(10);
        c.eq("on its way to stop 0", x.of(0, 1), 0);
        c.eq("turned", x.turn(0), 20);
        c.eq("on its way to stop 1", x.of(0, 1), 1);
        x.go(10);
        c.eq("landed", x.of(0, 0), 0);
        c.eq("at stop 1", x.of(0, 1), 1);
        c.eq("buoys at stop 1", x.free(1), 3);
        c.eq("buoys at stop 0", x.free(0), 4);
    }

    private static void p16FuelToTheGallon() {
        c.promise("16 turn: not, if e and these burn more than it had as it lifted");
        c.eq("25 and 25 of 60", flown(25, new Kind().tank(60)).turn(0), 50);
        c.eq("30 and 30 of 60", flown(30, new Kind().tank(60)).turn(0), 60);
        c.eq("31 and 31 of 60", flown(31, new Kind().tank(60)).turn(0), NONE);
        c.eq("31 and 31 of 61", flown(31, new Kind().tank(61)).turn(0), NONE);
        c.eq("31 and 31 of 62", flown(31, new Kind().tank(62)).turn(0), 62);
        // 61 gallons an hour: 60 minutes burn 61, 62 burn 63 and a little
        c.eq("31 and 31 of 63", flown(31, new Kind().burn(61).tank(63)).turn(0), NONE);
        c.eq("31 and 31 of 64", flown(31, new Kind().burn(61).tank(64)).turn(0), 62);
        HullLine x = flown(30, new Kind().tank(60));
        x.turn(0);
        x.go(30);
        c.eq("lands with its last gallon", x.of(0, 0), 0);
        c.eq("no fuel", x.of(0, 2), 0);
    }

    private static int turned(int e, int speed, int wind) {
        HullLine x = Bounds.pair(300);
        new Kind().speed(speed).tank(3000).at(x, 0);
        x.fuel(0, 60);
        x.wind(0, 0, wind);
        x.lift(0, 0);
        x.go(e);
        return x.turn(0);
    }

    private static void p16BackRoundedUp() {
        c.promise("16 turn: times G, by its G the other way, rounded up");
        c.eq("11 at 130, 13 at 110", turned(11, 120, 10), 24);
        c.eq("12 at 130, 14.2 at 110", turned(12, 120, 10), 27);
        c.eq("10 at 130, 11.8 at 110", turned(10, 120, 10), 22);
        c.eq("13 at 110, 11 at 130", turned(13, 120, -10), 24);
        c.eq("14 at 110, 11.8 at 130", turned(14, 120, -10), 26);
        c.eq("1 at 60, 1/3 at 180", turned(1, 120, -60), 2);
        c.eq("3 at 60, 1 at 180", turned(3, 120, -60), 4);
        c.eq("4 at 60, 4/3 at 180", turned(4, 120, -60), 6);
    }

    private static void p16BackTwentyMilesAnHourAtLeast() {
        c.promise("16 turn: G 20 at least, both ways");
        c.eq("back: 10 at 120, 60 at 20", turned(10, 60, 60), 70);
        c.eq("back: 10 at 100, 50 at 20", turned(10, 60, 40), 60);
        c.eq("back: 21 at 99, 99 at 21", turned(21, 60, 39), 120);
        c.eq("out: 12 at 20, 2 at 120", out(12), 14);
        c.eq("out: 13 at 20, 2.2 at 120", out(13), 16);
    }

    private static int out(int e) {
        HullLine x = Bounds.pair(280);
        new Kind().speed(60).at(x, 0);
        x.fuel(0, 20);
        x.wind(0, 0, -60);
        x.lift(0, 0);
        x.go(e);
        return x.turn(0);
    }

    private static HullLine windy(int wind, int tank) {
        HullLine x = Bounds.pair(120);
        x.swell(1, 0, 8);
        x.wind(0, 0, wind);
        new Kind().tank(tank).at(x, 0);
        x.fuel(0, 60);
        return x;
    }

    private static void p16ThePoint() {
        c.promise("16 turn: at THE POINT, and not past it");
        int[][] all = {{0, 60}, {0, 61}, {0, 99}, {0, 118}, {10, 80}, {33, 77}, {60, 80}, {-60, 120}, {-60, 150}, {-17, 91}};
        for (int[] a : all) {
            HullLine x = windy(a[0], a[1]);
            int point = x.point(0, 0);
            int minutes = x.lift(0, 0);
            c.yes("wind " + a[0] + ", tank " + a[1] + ": a point ahead of the end", point >= 1 && point < minutes);
            x.go(point);
            c.yes("at it", x.turn(0) > point);
            HullLine y = windy(a[0], a[1]);
            y.lift(0, 0);
            y.go(point + 1);
            c.eq("past it", y.turn(0), NONE);
        }
    }

    private static void p16NothingHappens() {
        c.promise("16 turn: NONE, and nothing happens");
        b.range("boat", 0, 0, 40, NONE, v -> flown(20, new Kind()).turn(v));
        b.nothing("no such boat", Bounds::busy, x -> x.turn(5), NONE);
        b.nothing("no such boat", Bounds::busy, x -> x.turn(-1), NONE);
        b.nothing("moored", Bounds::busy, x -> x.turn(Bounds.WAITS), NONE);
        b.nothing("sunk", Bounds::busy, x -> x.turn(Bounds.SANK), NONE);
        b.nothing("turned", x -> {
            Bounds.busy(x);
            x.turn(Bounds.FLIES);
        }, x -> x.turn(Bounds.FLIES), NONE);
        b.nothing("just lifted", x -> {
            Bounds.busy(x);
            x.fuel(Bounds.WAITS, 4);
            x.lift(Bounds.WAITS, 0);
        }, x -> x.turn(Bounds.WAITS), NONE);
        b.nothing("past the point", x -> copy(x, 31, 61), x -> x.turn(0), NONE);
        b.nothing("circling", x -> copy(x, 60, 100), x -> x.turn(0), NONE);
    }

    private static void copy(HullLine x, int minutes, int tank) {
        x.stop(4, 9, true);
        x.stop(4, 9, true);
        x.leg(0, 1, 120);
        x.drums(0, 99);
        x.swell(1, 0, 8);
        new Kind().tank(tank).at(x, 0);
        x.fuel(0, 9);
        x.lift(0, 0);
        x.go(minutes);
    }

    // ---- 17

    private static void p17NoSuchOnes() {
        c.promise("17 point: no such ones, not at an end of it");
        b.range("boat", 0, 0, 60, NONE, v -> Bounds.pairAnd(new Kind()).point(v, 0));
        b.range("leg", 0, 0, 60, NONE, v -> Bounds.pairAnd(new Kind()).point(0, v));
        HullLine x = Bounds.line(4);
        x.leg(1, 2, 100);
        x.leg(0, 3, 100);
        new Kind().at(x, 0);
        x.fuel(0, 4);
        c.eq("not at an end", x.point(0, 0), NONE);
        c.eq("at an end", x.point(0, 1), 50);
        x.lift(0, 1);
        c.eq("in the air", x.point(0, 1), NONE);
        x.go(50);
        c.eq("at the other end", x.point(0, 1), 50);
        HullLine y = new HullLine();
        Bounds.busy(y);
        c.eq("sunk", y.point(Bounds.SANK, 2), NONE);
    }

    /** A boat at stop 1, 120 miles from stop 0, that landed with so many gallons. */
    private static HullLine gallons(int left, int wind) {
        HullLine x = Bounds.pairAnd(new Kind().tank(60 + left));
        x.lift(0, 0);
        x.go(60);
        x.wind(0, 0, -wind);
        return x;
    }

    private static void p17NoSuchE() {
        c.promise("17 point: NONE: there is no such e");
        c.eq("0 gallons", gallons(0, 0).point(0, 0), NONE);
        c.eq("1 gallon", gallons(1, 0).point(0, 0), NONE);
        c.eq("2 gallons: 1 and 1", gallons(2, 0).point(0, 0), 1);
        c.eq("3 gallons: 1 and 1", gallons(3, 0).point(0, 0), 1);
        c.eq("4 gallons: 2 and 2", gallons(4, 0).point(0, 0), 2);
        c.eq("180 and 60, 3 gallons", gallons(3, 60).point(0, 0), NONE);
        c.eq("180 and 60, 4 gallons", gallons(4, 60).point(0, 0), 1);
        c.eq("60 and 180, 1 gallon", gallons(1, -60).point(0, 0), NONE);
        c.eq("60 and 180, 2 gallons", gallons(2, -60).point(0, 0), 1);
        HullLine x = Bounds.pair(120);
        new Kind().at(x, 0);
        c.eq("an empty tank", x.point(0, 0), NONE);
    }

    private static void p17NoMoreThanMinutes() {
        c.promise("17 point: the greatest e, 1 .. MINUTES");
        c.eq("117 gallons", gallons(117, 0).point(0, 0), 58);
        c.eq("118 gallons", gallons(118, 0).point(0, 0), 59);
        c.eq("119 gallons", gallons(119, 0).point(0, 0), 59);
        c.eq("120 gallons", gallons(120, 0).point(0, 0), 60);
        c.eq("121 gallons", gallons(121, 0).point(0, 0), 60);
        c.eq("900 gallons", gallons(900, 0).point(0, 0), 60);
        c.eq("40 minutes at 180", gallons(900, 60).point(0, 0), 40);
        c.eq("40 and 120, 160 gallons", gallons(160, 60).point(0, 0), 40);
        c.eq("40 and 120, 159 gallons", gallons(159, 60).point(0, 0), 39);
        c.eq("120 minutes at 60", gallons(900, -60).point(0, 0), 120);
    }

    private static void p17WhateverForbidsTheLift() {
        c.promise("17 point: if it lifted now with its FUEL");
        HullLine x = Bounds.pairAnd(new Kind().tank(50));
        c.eq("less than the leg takes", x.point(0, 0), 25);
        x.breaks(0, true);
        x.rest(0);
        x.swell(0, 0, 9);
        Check.rules(x, "lift if day=9;");
        c.eq("refused for all causes", x.point(0, 0), 25);
    }

    private static void p17RoundedUp() {
        c.promise("17 point: the way back, and what it burns, rounded up");
        // out at 130, back at 110: 11 and 13, 12 and 15
        c.eq("24 gallons", gallons(24, 10).point(0, 0), 11);
        c.eq("26 gallons", gallons(26, 10).point(0, 0), 11);
        c.eq("27 gallons", gallons(27, 10).point(0, 0), 12);
        // 61 gallons an hour: 58 minutes burn 59 (58.97), 60 burn 61
        HullLine x = Bounds.pairAnd(new Kind().burn(61).tank(58));
        c.eq("58 of 61 an hour", x.point(0, 0), 28);
        HullLine y = Bounds.pairAnd(new Kind().burn(61).tank(59));
        c.eq("59 of 61 an hour", y.point(0, 0), 29);
    }

    private static void p17AsksAlone() {
        c.promise("17 point: it asks alone");
        b.nothing("a point", Bounds::busy, x -> x.point(Bounds.WAITS, 0), 22);
        b.nothing("no such boat", Bounds::busy, x -> x.point(5, 0), NONE);
        b.nothing("in the air", Bounds::busy, x -> x.point(Bounds.FLIES, 0), NONE);
        b.nothing("no fuel", Bounds::busy, x -> x.point(Bounds.IN_THE_WAY, 2), NONE);
    }
}
