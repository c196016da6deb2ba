/**
 * Sentences of the document that bind several calls at once, in the document's order: what lasts when another call comes
 * between, what one call leaves alone, and what is allowed because nothing forbids it.
 */
public final class SentencesTest {
    private static final Check c = new Check("SentencesTest");
    private static final Bounds b = new Bounds(c);
    private static final int NONE = HullLine.NONE;
    private static final int RULE = 0;
    private static final int WATER = 1;
    private static final int FUEL = 2;
    private static final int CREW = 3;
    private static final int BROKEN = 4;

    public static void main(String[] args) {
        p01In512Calls();
        p02To07AtAnyMinute();
        p05BoatsComeInAnyWeather();
        p05WeakAndHeavyBoats();
        p06PastHoursToo();
        p07PastDaysToo();
        p12RulesOfAStopToCome();
        p12CauseStaysWithOtherRules();
        p13AsItIsNow();
        p14WhateverTheBoatIs();
        p15NothingElseForbidsALift();
        p15RulesAsItIsNow();
        p15CauseStaysWhateverComes();
        p15WindOfTheLiftsDay();
        p16LostMinutesStay();
        p16HeldWhereItTurnsBackTo();
        p16SinksWhereItTurnsBackTo();
        p16OnceInEachLift();
        p18CauseGoesOnWhenItsReasonIsOver();
        p18MinutesAtItsOwnStopAndBehindDue();
        p18HeldForItsOwnBagsAlone();
        p18LandsByWhatIsToldMeanwhile();
        p19WhateverTheBoatIs();
        p19BedsOfBrokenOnes();
        p20WhateverTheBoatIs();
        p21InAnyWeather();
        p22DueAheadOfNow();
        p23To24WhateverTheBoatIs();
        p24AtItsOwnStopAlone();
        p24ByAnotherBoat();
        p25LostMinutesGoWithTheBag();
        p28BagsWhereverTheyAre();
        p29TakesNothing();
        p29WhateverTheBoatIs();
        c.finish();
    }

    /** One bag from stop 0 to stop 1 aboard boat 0. */
    private static void bagAboard(HullLine x) {
        int bag = x.bag(0, 1, 10, 0);
        c.yes("comes aboard", x.load(bag, 0));
    }

    /** A boat with a full tank at one end of 120 miles, and a bag aboard it. */
    private static HullLine boatAndBag() {
        HullLine x = Bounds.pairAnd(new Kind());
        bagAboard(x);
        return x;
    }

    /** The same, but refused for a cause: what it is refused for stays as it was made. */
    private static HullLine refused(int cause) {
        HullLine x = Bounds.pair(120);
        new Kind().at(x, 0);
        bagAboard(x);
        if (cause != FUEL) {
            x.fuel(0, 20);
        }
        if (cause == RULE) {
            Check.rules(x, "lift if day=9;");
        } else if (cause == WATER) {
            x.swell(0, 0, 7);
        } else if (cause == CREW) {
            x.rest(0);
        } else if (cause == BROKEN) {
            x.breaks(0, true);
        }
        c.eq("refused", x.lift(0, 0), -2 - cause);
        return x;
    }

    private static void lost(HullLine x, int bag, String what, int... due) {
        for (int i = 0; i < due.length; i++) {
            c.eq(what + ", bag " + bag + ", cause " + i, x.mail(bag, 10 + i), due[i]);
        }
    }

    // ---- what it is, and the line

    private static void p01In512Calls() {
        c.promise("1: an object is used for at most 512 calls");
        HullLine x = new HullLine();
        x.stop(1, 0, true);
        x.stop(1, 0, true);
        x.leg(0, 1, 20);
        x.boat(0, 1000, 90000, 200, 10, 3000, 20000, 2);
        x.drums(0, 60);
        x.fuel(0, 60);
        x.bag(0, 1, 7, 0);
        x.load(0, 0);
        // 8 calls so far; then 280, for 840 minutes of duty are 140 goings of 6
        for (int i = 1; i <= 140; i++) {
            c.eq("lift " + i, x.lift(0, 0), 6);
            c.eq("go " + i, x.go(6), 6 * i);
        }
        for (int call = 289; call <= 510; call += 2) {
            c.eq("call " + call, x.count(0), 840);
            c.eq("call " + (call + 1), x.count(6), 140);
        }
        c.eq("call 511: a 141st is too much duty", x.lift(0, 0), -5);
        c.eq("call 512: a gallon for each", x.of(0, 2), 3000 - 140);
    }

    private static void p02To07AtAnyMinute() {
        c.promise("2 to 7, 22: at any MINUTE");
        HullLine x = Bounds.pair(120);
        x.go(777);
        c.eq("a stop", x.stop(1, 5, false), 2);
        c.eq("a leg", x.leg(2, 0, 240), 1);
        c.eq("drums", x.drums(2, 9), 9);
        c.eq("a boat", new Kind().at(x, 2), 0);
        c.eq("a swell", x.swell(2, 0, 2), 0);
        c.eq("a wind", x.wind(1, 0, 0), 1);
        c.eq("a bag", x.bag(2, 0, 10, 999), 0);
        c.eq("fuel", x.fuel(0, 9), 450);
        c.yes("aboard", x.load(0, 0));
        c.eq("lifts", x.lift(0, 1), 120);
        Bounds.goTo(x, 143999);
        c.eq("a stop in the last minute", x.stop(1, 5, false), 3);
        c.eq("a leg in the last minute", x.leg(3, 0, 240), 2);
        c.eq("a boat in the last minute", new Kind().at(x, 3), 1);
        c.eq("a bag in the last minute", x.bag(3, 0, 10, 999), 1);
        c.eq("a swell in the last minute", x.swell(3, 2399, 2), 2);
        c.eq("a wind in the last minute", x.wind(2, 99, 2), 3);
    }

    private static void p05BoatsComeInAnyWeather() {
        c.promise("5 boat: MOORED, if a BUOY is free");
        HullLine x = new HullLine();
        x.stop(1, 0, false);
        x.swell(0, 0, 9);
        Check.rules(x, "land if day=9; lift if day=9;");
        c.eq("by night, without a light, in a swell of 9, against all lines", new Kind().at(x, 0), 0);
        c.eq("moored", x.of(0, 0), 0);
        c.eq("its tank is empty", x.of(0, 2), 0);
    }

    private static void p05WeakAndHeavyBoats() {
        c.promise("5 boat: EMPTY, LIFT and all others, each as told, whatever the others are");
        HullLine x = Bounds.line(1);
        c.eq("never lifts", x.boat(0, 40000, 1000, 60, 300, 50, 20000, 9), 0);
        c.eq("weighs", x.of(0, 3), 40000);
    }

    // ---- facts

    private static void p06PastHoursToo() {
        c.promise("6 swell: of an HOUR, past or not");
        HullLine x = boatAndBag();
        x.go(600);
        c.eq("of hour 0, told in hour 10", x.swell(0, 0, 7), 0);
        c.eq("holds on", x.lift(0, 0), -3);
        c.eq("of hour 9", x.swell(0, 9, 2), 1);
        c.eq("of hour 11", x.swell(0, 11, 9), 2);
        c.eq("hour 9 counts in hour 10", x.lift(0, 0), 60);
    }

    private static void p07PastDaysToo() {
        c.promise("7 wind: of a DAY, past or not");
        HullLine x = boatAndBag();
        x.go(1440);
        x.go(1440);
        c.eq("of day 0, told on day 2", x.wind(0, 0, -60), 0);
        c.eq("of day 3", x.wind(0, 3, 60), 1);
        c.eq("day 0 counts on day 2", x.lift(0, 0), 120);
    }

    // ---- rules

    private static void p12RulesOfAStopToCome() {
        c.promise("12 rules: at: it is a LINE of that STOP alone");
        HullLine x = new HullLine();
        c.eq("of stops that are not there yet", Check.rules(x, "lift at 10 if day=9; lift at 11 if day=9;"), 2);
        for (int i = 0; i < 12; i++) {
            x.stop(1, 0, true);
        }
        new Kind().at(x, 9);
        new Kind().at(x, 10);
        new Kind().at(x, 11);
        c.eq("at 9", x.barred(0, false), NONE);
        c.eq("at 10", x.barred(1, false), 0);
        c.eq("at 11", x.barred(2, false), 1);
    }

    private static void p12CauseStaysWithOtherRules() {
        c.promise("12 rules: THE RULES in place of what was, and nothing else");
        HullLine x = refused(RULE);
        c.eq("no rules", x.rules(), 0);
        c.eq("the cause stays", x.of(0, 5), RULE);
        c.eq("others", Check.rules(x, "lift if day=0;"), 1);
        c.eq("the cause stays", x.of(0, 5), RULE);
        c.eq("now it lifts", x.lift(0, 0), 60);
        c.eq("no cause", x.of(0, 5), NONE);
    }

    private static void p13AsItIsNow() {
        c.promise("13 barred: as it is");
        HullLine x = boatAndBag();
        Check.rules(x, "lift if bags=1 and hour=0; land if fuel=1000 and swell=3;");
        c.eq("so", x.barred(0, false), NONE);
        c.eq("so", x.barred(0, true), NONE);
        x.unload(0);
        c.eq("no bag", x.barred(0, false), 0);
        x.load(0, 0);
        c.eq("a bag again", x.barred(0, false), NONE);
        x.go(60);
        c.eq("another hour", x.barred(0, false), 0);
        x.swell(0, 1, 4);
        c.eq("another swell", x.barred(0, true), 1);
        x.swell(0, 1, 3);
        c.eq("that swell again", x.barred(0, true), NONE);
        x.breaks(0, true);
        x.rest(0);
        c.eq("broken, and it rests", x.barred(0, true), NONE);
        c.eq("broken, and it rests", x.barred(0, false), 0);
    }

    // ---- fuel, lifting

    private static void p14WhateverTheBoatIs() {
        c.promise("14 fuel: DRUMS are pumped into a MOORED BOAT");
        for (int cause = RULE; cause <= BROKEN; cause++) {
            HullLine x = refused(cause);
            int before = x.of(0, 2);
            c.eq("of cause " + cause, x.fuel(0, 1), Math.min(1000, before + 50));
            c.eq("the cause stays", x.of(0, 5), cause);
        }
        HullLine y = Bounds.pairAnd(new Kind());
        y.breaks(0, true);
        y.rest(0);
        c.eq("broken, at rest, full", y.fuel(0, 1), 1000);
    }

    private static void p15NothingElseForbidsALift() {
        c.promise("15 lift: refused, the first of -2 .. -6, and for nothing else");
        HullLine x = new HullLine();
        x.stop(1, 0, false);
        x.stop(1, 0, false);
        x.leg(0, 1, 120);
        x.drums(0, 60);
        new Kind().at(x, 0);
        new Kind().at(x, 1);
        x.fuel(0, 2);
        x.swell(1, 0, 9);
        Check.rules(x, "land if day=9; lift at 1 if day=9;");
        c.eq("by night, to where no buoy, no light, a swell of 9 and no landing are", x.lift(0, 0), 60);
    }

    private static void p15RulesAsItIsNow() {
        c.promise("15 lift: a LINE is not so there");
        HullLine x = boatAndBag();
        Check.rules(x, "lift if bags=1;");
        c.eq("without asking first", x.lift(0, 0), 60);
        HullLine y = boatAndBag();
        Check.rules(y, "lift if bags=1;");
        y.barred(0, false);
        y.unload(0);
        c.eq("asked with a bag, lifted without", y.lift(0, 0), -2);
        y.load(0, 0);
        c.eq("with one again", y.lift(0, 0), 60);
        HullLine z = Bounds.pairAnd(new Kind());
        new Kind().at(z, 1);
        z.fuel(1, 20);
        Check.rules(z, "lift at 0 if fuel<100; lift at 1 if day=0;");
        c.eq("asked for one", z.barred(0, false), 0);
        c.eq("lifts the other", z.lift(1, 0), 60);
    }

    private static void p15CauseStaysWhateverComes() {
        c.promise("15 lift: its CAUSE from then on, till it lifts");
        for (int cause = RULE; cause <= BROKEN; cause++) {
            HullLine x = refused(cause);
            x.go(480);
            c.eq("minutes", x.of(0, 5), cause);
            c.yes("broken or mended", x.breaks(0, cause != BROKEN));
            c.eq("broken or mended", x.of(0, 5), cause);
            c.yes("rests", x.rest(0));
            c.eq("at rest", x.of(0, 5), cause);
            c.yes("unloaded", x.unload(0));
            c.eq("its last bag ashore", x.of(0, 5), cause);
            c.yes("loaded", x.load(0, 0));
            c.eq("a bag aboard", x.of(0, 5), cause);
            x.fuel(0, 20);
            x.swell(0, 0, 2);
            x.wind(0, 0, 60);
            x.rules();
            c.eq("fuel, swell, wind, rules", x.of(0, 5), cause);
            c.eq("the point is asked", x.point(0, 0), 40);
            c.eq("asked", x.of(0, 5), cause);
            x.go(480);
            x.breaks(0, false);
            c.eq("lifts", x.lift(0, 0), 40);
            c.eq("no cause", x.of(0, 5), NONE);
        }
    }

    private static void p15WindOfTheLiftsDay() {
        c.promise("15 lift: MINUTES by the WIND as it lifts");
        HullLine x = boatAndBag();
        x.wind(0, 1, -60);
        x.go(1430);
        c.eq("ten minutes ahead of day 1", x.lift(0, 0), 60);
        x.wind(0, 0, 60);
        x.go(59);
        c.eq("not there yet, whatever blows", x.of(0, 0), 1);
        c.eq("of so many", x.of(0, 7), 60);
        x.go(1);
        c.eq("there", x.of(0, 0), 0);
        lost(x, 0, "no minutes of wind", 0, 0, 0, 0, 0, 0, 0);
    }

    // ---- turning

    private static void p16LostMinutesStay() {
        c.promise("16 turn: MINUTES of WIND are lost at once, and a TURN changes none");
        HullLine x = boatAndBag();
        x.wind(0, 0, -20);
        c.eq("120 miles at 100", x.lift(0, 0), 72);
        lost(x, 0, "as it lifts", 0, 0, 0, 0, 0, 12, 0);
        x.go(14);
        c.eq("14 at 100 are 10 at 140", x.turn(0), 24);
        lost(x, 0, "as it turns", 0, 0, 0, 0, 0, 12, 0);
        c.eq("so far", x.of(0, 6), 14);
        c.eq("its duty", x.of(0, 4), 14);
        c.eq("no cause", x.of(0, 5), NONE);
        c.eq("no buoy is taken", x.free(0), 4);
        c.eq("one lift", x.count(6), 1);
        x.go(10);
        c.eq("landed", x.of(0, 0), 0);
        c.eq("its duty", x.of(0, 4), 24);
        c.eq("24 gallons", x.of(0, 2), 976);
        lost(x, 0, "as it lands", 0, 0, 0, 0, 0, 12, 0);
        c.yes("put ashore", x.unload(0));
        c.eq("where it came from: not delivered", x.mail(0, 0), 0);
        c.eq("at", x.mail(0, 1), 0);
    }

    private static void p16HeldWhereItTurnsBackTo() {
        c.promise("16 turn: it lands as any, else it circles");
        HullLine x = new HullLine();
        x.stop(1, 0, true);
        x.stop(1, 0, true);
        x.leg(0, 1, 120);
        x.drums(0, 60);
        new Kind().at(x, 0);
        x.fuel(0, 20);
        bagAboard(x);
        x.lift(0, 0);
        c.eq("another takes its buoy", new Kind().at(x, 0), 1);
        x.go(10);
        c.eq("turned", x.turn(0), 20);
        x.go(9);
        lost(x, 0, "on its way", 0, 0, 0, 0, 0, 0, 0);
        x.go(3);
        lost(x, 0, "held", 0, 0, 0, 0, 0, 0, 3);
        c.eq("of how many stays", x.of(0, 7), 20);
        c.eq("so far", x.of(0, 6), 22);
        c.eq("can't be turned any more", x.turn(0), NONE);
        x.fuel(1, 10);
        c.eq("the other goes", x.lift(1, 0), 60);
        x.go(1);
        c.eq("landed", x.of(0, 0), 0);
        lost(x, 0, "landed", 0, 0, 0, 0, 0, 0, 3);
        c.eq("23 gallons", x.of(0, 2), 977);
    }

    private static void p16SinksWhereItTurnsBackTo() {
        c.promise("16 turn: SUNK there");
        HullLine x = new HullLine();
        x.stop(1, 0, true);
        x.stop(1, 0, true);
        x.leg(0, 1, 120);
        x.drums(0, 60);
        new Kind().tank(60).at(x, 0);
        x.fuel(0, 2);
        bagAboard(x);
        x.lift(0, 0);
        new Kind().at(x, 0);
        x.go(30);
        c.eq("60 minutes, 60 gallons", x.turn(0), 60);
        x.go(30);
        c.eq("circles", x.of(0, 0), 1);
        x.go(1);
        c.eq("sunk", x.of(0, 0), 2);
        c.eq("where it lifted", x.of(0, 1), 0);
        c.eq("its bag is lost", x.mail(0, 0), 3);
        c.eq("burnt", x.count(9), 60);
    }

    private static void p16OnceInEachLift() {
        c.promise("16 turn: a BOAT in the AIR may be TURNED once");
        HullLine x = boatAndBag();
        for (int i = 0; i < 3; i++) {
            c.eq("lifts", x.lift(0, 0), 60);
            x.go(5);
            c.eq("turned", x.turn(0), 10);
            x.go(1);
            c.eq("once", x.turn(0), NONE);
            x.go(4);
            c.eq("landed", x.of(0, 0), 0);
            c.eq("not in the air", x.turn(0), NONE);
        }
    }

    // ---- minutes

    private static void p18CauseGoesOnWhenItsReasonIsOver() {
        c.promise("18 go: one MINUTE of their CAUSE, if any");
        for (int cause = RULE; cause <= BROKEN; cause++) {
            HullLine x = refused(cause);
            x.go(480);
            x.rules();
            x.swell(0, 0, 2);
            x.fuel(0, 20);
            x.breaks(0, false);
            x.go(20);
            int[] due = new int[7];
            due[cause] = 500;
            lost(x, 0, "whatever it was refused for is over", due);
            c.yes("rests", x.rest(0));
            x.go(7);
            due[cause] = 507;
            lost(x, 0, "at rest", due);
        }
    }

    private static void p18MinutesAtItsOwnStopAndBehindDue() {
        c.promise("18 go: for each BAG aboard");
        HullLine x = boatAndBag();
        x.bag(0, 1, 10, 100000);
        x.load(1, 0);
        x.lift(0, 0);
        x.go(60);
        x.breaks(0, true);
        c.eq("refused at the bags' own stop", x.lift(0, 0), -6);
        x.go(9);
        lost(x, 0, "due in 0", 0, 0, 0, 0, 9, 0, 0);
        lost(x, 1, "due late", 0, 0, 0, 0, 9, 0, 0);
        c.eq("aboard, till it is put ashore", x.mail(0, 0), 1);
        c.eq("delivered", x.count(11), 0);
    }

    private static void p18HeldForItsOwnBagsAlone() {
        c.promise("18 go: HELD for each BAG aboard");
        HullLine x = new HullLine();
        x.stop(4, 0, true);
        x.stop(1, 0, true);
        x.leg(0, 1, 120);
        x.drums(0, 60);
        for (int i = 0; i < 3; i++) {
            new Kind().at(x, 0);
            x.bag(0, 1, 10, 0);
            x.load(i, i);
        }
        x.bag(0, 1, 10, 0);
        x.load(3, 1);
        x.fuel(0, 2);
        x.fuel(1, 20);
        x.lift(0, 0);
        x.lift(1, 0);
        x.go(64);
        lost(x, 0, "landed first", 0, 0, 0, 0, 0, 0, 0);
        lost(x, 1, "held", 0, 0, 0, 0, 0, 0, 5);
        lost(x, 3, "held too", 0, 0, 0, 0, 0, 0, 5);
        lost(x, 2, "moored", 0, 0, 0, 0, 0, 0, 0);
    }

    private static void p18LandsByWhatIsToldMeanwhile() {
        c.promise("18 go: it lands, if .. (as it is then)");
        HullLine x = boatAndBag();
        x.lift(0, 0);
        x.swell(1, 0, 8);
        x.go(60);
        x.go(5);
        c.eq("a swell told in the air", x.of(0, 0), 1);
        x.swell(1, 0, 7);
        Check.rules(x, "land if hour>1;");
        x.go(5);
        c.eq("rules told in the air", x.of(0, 0), 1);
        x.rules();
        x.go(1);
        c.eq("nothing is against it any more", x.of(0, 0), 0);
        lost(x, 0, "held", 0, 0, 0, 0, 0, 0, 11);
    }

    // ---- rest, breaking, raising

    private static void p19WhateverTheBoatIs() {
        c.promise("19 rest: a MOORED BOAT, if BEDS are enough");
        for (int cause = RULE; cause <= BROKEN; cause++) {
            HullLine x = refused(cause);
            c.eq("refused for " + cause, Bounds.bit(x.rest(0)), cause == CREW ? 0 : 1);
            c.eq("rests", x.of(0, 8), 1);
            c.eq("the cause stays", x.of(0, 5), cause);
            c.eq("broken as it was", x.of(0, 9), cause == BROKEN ? 1 : 0);
        }
        HullLine y = new HullLine();
        y.stop(1, 3, false);
        new Kind().at(y, 0);
        y.swell(0, 0, 9);
        c.yes("new, without duty, by night and in a swell", y.rest(0));
    }

    private static void p19BedsOfBrokenOnes() {
        c.promise("19 rest: the CREWS that REST there");
        HullLine x = new HullLine();
        x.stop(3, 8, true);
        x.stop(3, 3, true);
        x.leg(0, 1, 120);
        for (int i = 0; i < 3; i++) {
            new Kind().at(x, 0);
        }
        c.yes("one", x.rest(0));
        c.yes("it breaks", x.breaks(0, true));
        c.eq("it rests on", x.of(0, 8), 1);
        c.yes("another", x.rest(1));
        c.no("a third, 9 of 8 beds", x.rest(2));
        c.yes("it is mended", x.breaks(0, false));
        c.no("9 of 8 beds still", x.rest(2));
        x.go(480);
        c.yes("their 480 minutes are over", x.rest(2));
    }

    private static void p20WhateverTheBoatIs() {
        c.promise("20 breaks: a MOORED BOAT is BROKEN, or mended");
        for (int cause = RULE; cause < BROKEN; cause++) {
            HullLine x = refused(cause);
            c.yes("refused for " + cause, x.breaks(0, true));
            c.eq("broken", x.of(0, 9), 1);
            c.eq("rests as before", x.of(0, 8), cause == CREW ? 1 : 0);
            c.eq("the cause stays", x.of(0, 5), cause);
            c.yes("mended", x.breaks(0, false));
            c.eq("not broken", x.of(0, 9), 0);
            c.eq("rests as before", x.of(0, 8), cause == CREW ? 1 : 0);
        }
        HullLine y = Bounds.pairAnd(new Kind());
        y.breaks(0, true);
        c.eq("broken is no cause, till a lift is refused", y.of(0, 5), NONE);
    }

    private static void p21InAnyWeather() {
        c.promise("21 raise: RAISED is a SUNK one, if a BUOY is free");
        HullLine x = new HullLine();
        x.stop(1, 0, true);
        x.stop(1, 0, false);
        x.leg(0, 1, 120);
        x.drums(0, 9);
        x.drums(1, 9);
        new Kind().tank(60).at(x, 0);
        x.fuel(0, 2);
        x.lift(0, 0);
        x.go(61);
        c.eq("sunk by night, without a light", x.of(0, 0), 2);
        int duty = x.of(0, 4);
        x.swell(1, 0, 9);
        Check.rules(x, "land if day=9;");
        c.yes("raised by night, in a swell of 9, against all lines", x.raise(0));
        c.eq("its duty stays", x.of(0, 4), duty);
        c.eq("no cause", x.of(0, 5), NONE);
        c.eq("no rest", x.of(0, 8), 0);
        c.eq("drums", x.count(8), 16);
        c.eq("weighs", x.of(0, 3), 10000);
    }

    // ---- mail

    private static void p22DueAheadOfNow() {
        c.promise("22 bag: DUE by a MINUTE, any");
        HullLine x = Bounds.pair(120);
        x.go(500);
        c.eq("due in 0", x.bag(0, 1, 10, 0), 0);
        c.eq("due 499", x.bag(0, 1, 10, 499), 1);
        new Kind().at(x, 0);
        x.fuel(0, 2);
        c.yes("loaded late", x.load(0, 0));
        x.lift(0, 0);
        x.go(60);
        x.unload(0);
        c.eq("late", x.mail(0, 3), 560);
        x.go(60);
        c.eq("late as it was delivered, not more since", x.mail(0, 3), 560);
    }

    private static void p23To24WhateverTheBoatIs() {
        c.promise("23, 24: load, unload: a MOORED BOAT");
        for (int cause = RULE; cause <= BROKEN; cause++) {
            HullLine x = refused(cause);
            c.yes("unload, " + cause, x.unload(0));
            c.eq("ashore", x.mail(0, 0), 0);
            c.yes("load, " + cause, x.load(0, 0));
            c.eq("aboard", x.mail(0, 0), 1);
            c.eq("the cause stays", x.of(0, 5), cause);
        }
        HullLine y = boatAndBag();
        y.rest(0);
        y.breaks(0, true);
        c.yes("broken and at rest", y.unload(0));
        c.yes("broken and at rest", y.load(0, 0));
    }

    private static void p24AtItsOwnStopAlone() {
        c.promise("24 unload: DELIVERED: put ashore at its own STOP");
        for (int goal = 1; goal < 12; goal++) {
            HullLine x = Bounds.line(12);
            x.leg(0, goal, 20);
            x.leg(0, goal == 11 ? 10 : goal + 1, 20);
            new Kind().at(x, 0);
            x.fuel(0, 20);
            x.bag(0, goal, 10, 0);
            x.load(0, 0);
            x.lift(0, 1);
            x.go(10);
            c.yes("elsewhere", x.unload(0));
            c.eq("ashore", x.mail(0, 0), 0);
            c.eq("there", x.mail(0, 1), goal == 11 ? 10 : goal + 1);
            x.load(0, 0);
            x.lift(0, 1);
            x.go(10);
            x.lift(0, 0);
            x.go(10);
            c.eq("none yet", x.count(11), 0);
            c.yes("at its own stop, " + goal, x.unload(0));
            c.eq("delivered", x.mail(0, 0), 2);
            c.eq("there", x.mail(0, 1), goal);
            c.eq("one", x.count(11), 1);
        }
    }

    private static void p24ByAnotherBoat() {
        c.promise("24 unload: a BAG aboard comes ashore, wherever its BOAT is MOORED");
        HullLine x = Bounds.line(3);
        x.leg(0, 1, 120);
        x.leg(1, 2, 120);
        new Kind().at(x, 0);
        new Kind().at(x, 1);
        x.fuel(0, 20);
        x.fuel(1, 20);
        x.bag(0, 2, 10, 0);
        x.load(0, 0);
        x.lift(0, 0);
        x.go(60);
        c.no("not from one boat to another", x.load(0, 1));
        c.yes("ashore midway", x.unload(0));
        c.yes("aboard the other", x.load(0, 1));
        c.eq("its boat", x.mail(0, 2), 1);
        c.eq("the first weighs less", x.of(0, 3), 10000 + 6 * 940);
        c.eq("the other more", x.of(1, 3), 10000 + 6 * 1000 + 10);
        x.lift(1, 1);
        x.go(60);
        c.yes("ashore", x.unload(0));
        c.eq("delivered", x.mail(0, 0), 2);
        c.eq("late", x.mail(0, 3), 120);
    }

    private static void p25LostMinutesGoWithTheBag() {
        c.promise("25 mail: LOST MINUTES of a BAG");
        HullLine x = refused(FUEL);
        x.go(10);
        x.unload(0);
        lost(x, 0, "ashore", 0, 0, 10, 0, 0, 0, 0);
        x.go(10);
        x.load(0, 0);
        lost(x, 0, "aboard again", 0, 0, 10, 0, 0, 0, 0);
        x.go(10);
        lost(x, 0, "more", 0, 0, 20, 0, 0, 0, 0);
        x.unload(0);
        new Kind().at(x, 0);
        x.breaks(1, true);
        x.fuel(1, 20);
        c.eq("another boat, broken", x.lift(1, 0), -6);
        x.load(0, 1);
        x.go(5);
        lost(x, 0, "by each cause", 0, 0, 20, 0, 5, 0, 0);
        x.breaks(1, false);
        x.wind(0, 0, -60);
        c.eq("against the wind", x.lift(1, 0), 120);
        lost(x, 0, "by wind", 0, 0, 20, 0, 5, 60, 0);
        x.go(120);
        x.unload(0);
        c.eq("delivered", x.mail(0, 0), 2);
        lost(x, 0, "delivered", 0, 0, 20, 0, 5, 60, 0);
    }

    // ---- weights found false, ways

    private static void p28BagsWhereverTheyAre() {
        c.promise("28 suspects: BAGS that were aboard, wherever they are since");
        HullLine x = new HullLine();
        x.stop(4, 0, true);
        x.stop(1, 0, true);
        x.leg(0, 1, 120);
        x.drums(0, 60);
        new Kind().tank(60).at(x, 0);
        x.fuel(0, 2);
        bagAboard(x);
        x.bag(0, 1, 10, 0);
        x.lift(0, 0);
        new Kind().at(x, 1);
        c.yes("too heavy", x.run(0, 10000 + 360 + 10 + 100));
        c.eq("in the air", x.suspects(), 1);
        x.go(61);
        c.eq("lost", x.mail(0, 0), 3);
        c.eq("lost", x.suspects(), 1);
        HullLine y = boatAndBag();
        y.lift(0, 0);
        y.go(60);
        c.yes("too heavy", y.run(0, 20000));
        c.eq("aboard", y.suspects(), 1);
        y.unload(0);
        c.eq("delivered", y.suspects(), 1);
        HullLine z = boatAndBag();
        z.lift(0, 0);
        z.go(1);
        z.turn(0);
        z.go(1);
        z.unload(0);
        c.yes("too heavy, found long behind", z.run(0, 20000));
        c.eq("ashore again", z.suspects(), 1);
    }

    private static void p29TakesNothing() {
        c.promise("29 way: it asks alone");
        HullLine x = Bounds.line(3);
        x.leg(0, 1, 120);
        x.leg(1, 2, 120);
        new Kind().tank(60).at(x, 0);
        c.eq("a full tank again midway", x.way(0, 0, 2, 0, 0, 0), 120);
        c.eq("drums", x.count(8), 1500);
        c.eq("fuel", x.of(0, 2), 0);
        c.eq("where it is", x.of(0, 1), 0);
        c.eq("now", x.count(0), 0);
        c.eq("lifts", x.count(6), 0);
        c.eq("the same again", x.way(0, 0, 2, 0, 0, 0), 120);
        b.nothing("a way is found", Bounds::busy, y -> y.way(0, 0, 1, 470, 4, 1), 1);
    }

    private static void p29WhateverTheBoatIs() {
        c.promise("29 way: a WAY of a BOAT from a STOP, whatever the BOAT is and where");
        for (int cause = RULE; cause <= BROKEN; cause++) {
            HullLine x = refused(cause);
            int hour = cause == WATER ? NONE : 60;
            c.eq("refused for " + cause, x.way(0, 0, 1, 0, x.count(4), 0), hour);
            c.eq("back, where it is not", x.way(0, 1, 0, 0, x.count(4), 0), 60);
            x.go(100);
            c.eq("from a minute that is over", x.way(0, 1, 0, 0, x.count(4), 0), 60);
        }
        HullLine y = new HullLine();
        Bounds.busy(y);
        int flies = y.way(Bounds.FLIES, 2, 0, 470, 4, 0);
        c.eq("60 miles from stop 2, in a swell of 8", flies, NONE);
        c.eq("from 0 to 1: 120 miles at 130", y.way(Bounds.FLIES, 0, 1, 470, 4, 0), 526);
        c.eq("of a sunk one", y.way(Bounds.SANK, 0, 1, 470, 4, 0), 526);
        c.eq("of one at rest, broken", y.way(Bounds.RESTS, 0, 1, 470, 4, 0), 526);
    }
}
