/** Promises 18 to 21 at the boundaries that the document names: minutes, landing, sinking, rest, breaking, raising. */
public final class BoundsMinutesTest {
    private static final Check c = new Check("BoundsMinutesTest");
    private static final Bounds b = new Bounds(c);
    private static final int NONE = HullLine.NONE;
    private static final int MOORED = 0;
    private static final int AIR = 1;
    private static final int SUNK = 2;

    public static void main(String[] args) {
        p18Minutes();
        p18TheLastMinute();
        p18NothingHappens();
        p18OneByOne();
        p18MinutesOfACause();
        p18MinutesOfEachCause();
        p18LandsAsItsMinutesAreOver();
        p18OfHowManyStays();
        p18NoBuoyThere();
        p18BoatsByNumbers();
        p18SwellSevenOrLess();
        p18Night();
        p18NightOrALight();
        p18LinesOfLanding();
        p18FuelAsItLifted();
        p18Circling();
        p18BurntAsItLands();
        p18SunkWhenItCanLand();
        p18SunkWhenItCantLand();
        p18AsItIsSunk();
        p19NoSuchBoat();
        p19Beds();
        p19BedsOfSeveral();
        p19For480Minutes();
        p19ItDoes();
        p19DutyAtOnce();
        p19NothingHappens();
        p20NoSuchOne();
        p20ItIsSo();
        p20NothingHappens();
        p21NotSunk();
        p21NoBuoyIsFree();
        p21AsItIsRaised();
        p21LostBagsStayLost();
        p21NothingHappens();
        c.finish();
    }

    // ---- 18

    private static void p18Minutes() {
        c.promise("18 go: 1 .. 1440");
        c.eq("1", new HullLine().go(1), 1);
        c.eq("1440", new HullLine().go(1440), 1440);
        b.outside("n", 1, 1440, NONE, v -> new HullLine().go(v));
    }

    private static HullLine at(int minute) {
        HullLine x = new HullLine();
        Bounds.goTo(x, minute);
        return x;
    }

    private static void p18TheLastMinute() {
        c.promise("18 go: beyond the last MINUTE");
        c.eq("142559 and 1440", at(142559).go(1440), 143999);
        c.eq("142560 and 1440", at(142560).go(1440), NONE);
        c.eq("142560 and 1439", at(142560).go(1439), 143999);
        c.eq("143998 and 1", at(143998).go(1), 143999);
        c.eq("143998 and 2", at(143998).go(2), NONE);
        HullLine x = at(143999);
        c.eq("now", x.count(0), 143999);
        c.eq("143999 and 1", x.go(1), NONE);
        c.eq("143999 and 1440", x.go(1440), NONE);
        c.eq("143999 and 0", x.go(0), NONE);
        c.eq("now still", x.count(0), 143999);
        HullLine y = Bounds.pairAnd(new Kind());
        Bounds.goTo(y, 143939);
        y.lift(0, 0);
        c.eq("60 more", y.go(60), 143999);
        c.eq("lands in the last minute", y.of(0, 0), MOORED);
        HullLine z = Bounds.pairAnd(new Kind());
        Bounds.goTo(z, 143940);
        z.lift(0, 0);
        c.eq("60 more", z.go(60), NONE);
        c.eq("59 more", z.go(59), 143999);
        c.eq("in the air for good", z.of(0, 0), AIR);
        c.eq("so far", z.of(0, 6), 59);
        c.eq("it may be turned still", z.turn(0), 118);
    }

    private static void p18NothingHappens() {
        c.promise("18 go: NONE, and nothing happens");
        b.nothing("0", Bounds::busy, x -> x.go(0), NONE);
        b.nothing("-1", Bounds::busy, x -> x.go(-1), NONE);
        b.nothing("1441", Bounds::busy, x -> x.go(1441), NONE);
        b.nothing("beyond the last minute", x -> {
            Bounds.busy(x);
            Bounds.goTo(x, 143000);
        }, x -> x.go(1000), NONE);
    }

    /** Many minutes at once do what they do one by one. */
    private static void p18OneByOne() {
        c.promise("18 go: n MINUTES go by");
        HullLine once = new HullLine();
        HullLine each = new HullLine();
        Bounds.busy(once);
        Bounds.busy(each);
        once.go(90);
        for (int i = 0; i < 90; i++) {
            each.go(1);
        }
        c.yes("90 at once, 90 times one", Answers.of(once).equals(Answers.of(each)));
    }

    private static void p18MinutesOfACause() {
        c.promise("18 go: MOORED ones: one MINUTE of their CAUSE, if any, for each BAG aboard");
        HullLine x = Bounds.pair(120);
        new Kind().at(x, 0);
        for (int i = 0; i < 3; i++) {
            x.bag(0, 1, 10, 0);
        }
        x.load(0, 0);
        x.load(1, 0);
        x.go(10);
        lost(x, 0, "no cause", 0, 0, 0, 0, 0, 0, 0);
        x.lift(0, 0);
        lost(x, 0, "at once none", 0, 0, 0, 0, 0, 0, 0);
        x.go(1);
        lost(x, 0, "a minute", 0, 0, 1, 0, 0, 0, 0);
        lost(x, 1, "a minute", 0, 0, 1, 0, 0, 0, 0);
        lost(x, 2, "none ashore", 0, 0, 0, 0, 0, 0, 0);
        x.load(2, 0);
        x.unload(1);
        x.go(5);
        lost(x, 0, "six", 0, 0, 6, 0, 0, 0, 0);
        lost(x, 1, "put ashore", 0, 0, 1, 0, 0, 0, 0);
        lost(x, 2, "loaded later", 0, 0, 5, 0, 0, 0, 0);
        x.fuel(0, 4);
        x.go(1);
        x.lift(0, 0);
        x.go(60);
        lost(x, 0, "seven, and none in the air", 0, 0, 7, 0, 0, 0, 0);
        x.go(30);
        lost(x, 0, "nor moored without a cause", 0, 0, 7, 0, 0, 0, 0);
    }

    private static void p18MinutesOfEachCause() {
        c.promise("18 go: RULE 0, WATER 1, FUEL 2, CREW 3, BROKEN 4");
        for (int cause = 0; cause <= 4; cause++) {
            HullLine x = Bounds.pair(120);
            new Kind().at(x, 0);
            x.bag(0, 1, 10, 0);
            x.load(0, 0);
            if (cause == 0) {
                Check.rules(x, "lift if day=9;");
            } else if (cause == 1) {
                x.swell(0, 0, 7);
            }
            if (cause != 2) {
                x.fuel(0, 2);
            }
            if (cause == 3) {
                x.rest(0);
            } else if (cause == 4) {
                x.breaks(0, true);
            }
            c.eq("refused", x.lift(0, 0), -2 - cause);
            x.go(7);
            int[] due = new int[7];
            due[cause] = 7;
            lost(x, 0, "refused for " + cause, due);
        }
    }

    private static void lost(HullLine x, int bag, String what, int... due) {
        for (int i = 0; i < due.length; i++) {
            c.eq(what + ", cause " + i, x.mail(bag, 10 + i), due[i]);
        }
    }

    private static void p18LandsAsItsMinutesAreOver() {
        c.promise("18 go: when its MINUTES are over it lands");
        HullLine x = Bounds.pairAnd(new Kind());
        x.bag(0, 1, 10, 0);
        x.load(0, 0);
        x.lift(0, 0);
        x.go(59);
        c.eq("59 of 60", x.of(0, 0), AIR);
        c.eq("so far", x.of(0, 6), 59);
        c.eq("duty", x.of(0, 4), 59);
        c.eq("buoys there", x.free(1), 4);
        x.go(1);
        c.eq("60 of 60", x.of(0, 0), MOORED);
        c.eq("there", x.of(0, 1), 1);
        c.eq("duty", x.of(0, 4), 60);
        c.eq("a buoy there is taken", x.free(1), 3);
        c.eq("not held", x.mail(0, 16), 0);
        x.go(1);
        c.eq("no duty more", x.of(0, 4), 60);
    }

    private static void p18OfHowManyStays() {
        c.promise("18 go: of how many MINUTES its going is stays");
        HullLine x = Bounds.pairAnd(new Kind());
        x.lift(0, 0);
        x.wind(0, 0, 60);
        c.eq("with a wind told later", x.of(0, 7), 60);
        x.go(59);
        c.eq("in the air", x.of(0, 0), AIR);
        x.go(1);
        c.eq("landed", x.of(0, 0), MOORED);
        HullLine y = Bounds.pairAnd(new Kind());
        y.wind(0, 1, -60);
        y.go(1439);
        y.lift(0, 0);
        y.go(60);
        c.eq("landed, with another wind of the next day", y.of(0, 0), MOORED);
    }

    private static HullLine oneBuoy() {
        HullLine x = new HullLine();
        x.stop(4, 9, true);
        x.stop(1, 9, true);
        x.leg(0, 1, 120);
        x.drums(0, 99);
        x.drums(1, 99);
        return x;
    }

    private static void p18NoBuoyThere() {
        c.promise("18 go: it lands, if a BUOY is free there");
        HullLine x = oneBuoy();
        new Kind().at(x, 0);
        new Kind().at(x, 1);
        x.fuel(0, 9);
        x.fuel(1, 9);
        x.lift(0, 0);
        x.go(100);
        c.eq("circles", x.of(0, 0), AIR);
        x.lift(1, 0);
        c.eq("circles till a minute goes by", x.of(0, 0), AIR);
        x.go(1);
        c.eq("lands where the buoy is free", x.of(0, 0), MOORED);
        c.eq("free", x.free(1), 0);
    }

    private static void p18BoatsByNumbers() {
        c.promise("18 go: BOATS, by numbers");
        HullLine x = oneBuoy();
        new Kind().at(x, 0);
        new Kind().at(x, 0);
        x.fuel(0, 9);
        x.fuel(1, 9);
        x.lift(1, 0);
        x.lift(0, 0);
        x.go(60);
        c.eq("of two in one minute the lesser number", x.of(0, 0), MOORED);
        c.eq("the other circles", x.of(1, 0), AIR);
        HullLine y = oneBuoy();
        new Kind().at(y, 0);
        new Kind().at(y, 0);
        y.fuel(0, 9);
        y.fuel(1, 9);
        y.lift(1, 0);
        y.go(1);
        y.lift(0, 0);
        y.go(60);
        c.eq("a minute earlier the greater number", y.of(1, 0), MOORED);
        c.eq("the other circles", y.of(0, 0), AIR);
    }

    private static HullLine landsBy(int swell) {
        HullLine x = Bounds.pairAnd(new Kind());
        x.swell(1, 1, swell);
        x.lift(0, 0);
        x.go(60);
        return x;
    }

    private static void p18SwellSevenOrLess() {
        c.promise("18 go: SWELL is 7 or less");
        for (int swell = 0; swell <= 9; swell++) {
            c.eq("swell " + swell, landsBy(swell).of(0, 0), swell <= 7 ? MOORED : AIR);
        }
        HullLine x = landsBy(8);
        x.swell(1, 2, 7);
        x.go(59);
        c.eq("minute 119", x.of(0, 0), AIR);
        x.go(1);
        c.eq("minute 120", x.of(0, 0), MOORED);
        HullLine y = Bounds.pairAnd(new Kind());
        y.swell(0, 0, 2);
        y.swell(1, 0, 7);
        y.swell(1, 1, 8);
        y.lift(0, 0);
        y.go(60);
        c.eq("the hour begins with its minute 0", y.of(0, 0), AIR);
    }

    /** Lands at stop 1 an hour behind its lift, so that it comes in this minute. */
    private static HullLine comes(int minute, boolean light) {
        HullLine x = new HullLine();
        x.stop(4, 9, true);
        x.stop(4, 9, light);
        x.leg(0, 1, 120);
        x.drums(0, 99);
        new Kind().tank(3000).at(x, 0);
        x.fuel(0, 60);
        Bounds.goTo(x, minute - 60);
        x.lift(0, 0);
        x.go(60);
        return x;
    }

    private static void p18Night() {
        c.promise("18 go: NIGHT: the rest of HOUR by 24 is below 6 or 18 and more");
        int[] day = {360, 361, 719, 1079, 1440 + 360, 1440 + 1079, 142560 + 360, 142560 + 1079};
        int[] night = {60, 359, 1080, 1081, 1439, 1440, 1440 + 359, 1440 + 1080, 142560 + 359, 142560 + 1080, 143999};
        for (int minute : day) {
            c.eq("by day, " + minute, comes(minute, false).of(0, 0), MOORED);
        }
        for (int minute : night) {
            c.eq("by night, " + minute, comes(minute, false).of(0, 0), AIR);
        }
        HullLine x = comes(1080, false);
        x.go(719);
        c.eq("circles till 1799", x.of(0, 0), AIR);
        x.go(1);
        c.eq("lands in 1800", x.of(0, 0), MOORED);
    }

    private static void p18NightOrALight() {
        c.promise("18 go: it is not NIGHT or there is a LIGHT");
        int[] minutes = {60, 359, 360, 1079, 1080, 1440, 143999};
        for (int minute : minutes) {
            c.eq("to a light, " + minute, comes(minute, true).of(0, 0), MOORED);
        }
    }

    private static void p18LinesOfLanding() {
        c.promise("18 go: all LINES of landing are so");
        String[] against = {"land if day=9;", "land at 1 if day=9;", "land if day=0;land if day=9;", "land if free=3;",
            "land if hour=0;"};
        String[] none = {"lift at 1 if day=9;", "land at 0 if day=9;", "land at 2 if day=9;", "", "land if free=4;", "land if hour=1;"};
        for (String text : against) {
            c.eq("against: " + text, underRules(text).of(0, 0), AIR);
        }
        for (String text : none) {
            c.eq("not against: " + text, underRules(text).of(0, 0), MOORED);
        }
        HullLine x = underRules("land if hour>1;");
        x.go(59);
        c.eq("minute 119", x.of(0, 0), AIR);
        x.go(1);
        c.eq("minute 120", x.of(0, 0), MOORED);
    }

    private static HullLine underRules(String text) {
        HullLine x = Bounds.pairAnd(new Kind());
        x.bag(0, 1, 10, 0);
        x.load(0, 0);
        Check.rules(x, text);
        x.lift(0, 0);
        x.go(60);
        return x;
    }

    private static void p18FuelAsItLifted() {
        c.promise("18 go: fuel, weight with what it had as it lifted");
        c.eq("fuel", underRules("land if fuel=1000;").of(0, 0), MOORED);
        c.eq("not what is left", underRules("land if fuel=940;").of(0, 0), AIR);
        c.eq("weight", underRules("land if weight=16010;").of(0, 0), MOORED);
        c.eq("not what is left", underRules("land if weight=15650;").of(0, 0), AIR);
        c.eq("bags", underRules("land if bags=1;").of(0, 0), MOORED);
    }

    private static void p18Circling() {
        c.promise("18 go: else it circles: one MINUTE more in the AIR, HELD for each BAG aboard");
        HullLine x = Bounds.pairAnd(new Kind());
        x.bag(0, 1, 10, 0);
        x.bag(0, 1, 10, 0);
        x.bag(0, 1, 10, 0);
        x.load(0, 0);
        x.load(2, 0);
        x.swell(1, 0, 8);
        x.lift(0, 0);
        x.go(59);
        c.eq("not held ahead of its end", x.mail(0, 16), 0);
        for (int i = 1; i <= 5; i++) {
            x.go(1);
            c.eq("held", x.mail(0, 16), i);
            c.eq("each bag", x.mail(2, 16), i);
            c.eq("not one ashore", x.mail(1, 16), 0);
            c.eq("so far", x.of(0, 6), 59 + i);
            c.eq("of how many", x.of(0, 7), 60);
            c.eq("duty", x.of(0, 4), 59 + i);
            c.eq("fuel as it lifted", x.of(0, 2), 1000);
            c.eq("burnt", x.count(9), 0);
        }
        x.swell(1, 0, 7);
        x.go(1);
        c.eq("lands", x.of(0, 0), MOORED);
        c.eq("held no more", x.mail(0, 16), 5);
        c.eq("fuel of 65 minutes", x.of(0, 2), 935);
        c.eq("burnt", x.count(9), 65);
        c.eq("duty", x.of(0, 4), 65);
    }

    private static int left(int burn, int minutes) {
        HullLine x = Bounds.pairAnd(new Kind().burn(burn));
        x.swell(1, 0, 8);
        x.lift(0, 0);
        x.go(minutes - 1);
        x.swell(1, 0, 7);
        x.go(1);
        c.eq("burnt", x.count(9), 1000 - x.of(0, 2));
        return 1000 - x.of(0, 2);
    }

    private static void p18BurntAsItLands() {
        c.promise("18 go: FUEL is less by what all its MINUTES burn, rounded up");
        c.eq("60 at 60", left(60, 60), 60);
        c.eq("60 at 61", left(61, 60), 61);
        c.eq("61 at 61: 62.02", left(61, 61), 63);
        c.eq("61 at 59: 59.98", left(59, 61), 60);
        c.eq("66 at 10: 11", left(10, 66), 11);
        c.eq("67 at 10: 11.2", left(10, 67), 12);
        c.eq("65 at 10: 10.8", left(10, 65), 11);
    }

    private static HullLine barely(int tank, int burn) {
        HullLine x = Bounds.pairAnd(new Kind().tank(tank).burn(burn));
        x.bag(0, 1, 10, 0);
        x.load(0, 0);
        x.swell(1, 0, 8);
        x.lift(0, 0);
        return x;
    }

    private static void p18SunkWhenItCanLand() {
        c.promise("18 go: if these burn more than it had, it is SUNK there");
        HullLine x = barely(70, 60);
        x.go(69);
        x.swell(1, 0, 7);
        x.go(1);
        c.eq("lands with its last gallon", x.of(0, 0), MOORED);
        c.eq("no fuel", x.of(0, 2), 0);
        HullLine y = barely(70, 60);
        y.go(70);
        c.eq("circles with its last gallon", y.of(0, 0), AIR);
        y.swell(1, 0, 7);
        y.go(1);
        c.eq("sunk, though it could land", y.of(0, 0), SUNK);
        // 69 minutes burn 70.15 at 61 an hour
        HullLine z = barely(70, 61);
        z.go(68);
        c.eq("68 burn 69.1", z.of(0, 0), AIR);
        z.swell(1, 0, 7);
        z.go(1);
        c.eq("69 burn 70.15", z.of(0, 0), SUNK);
        HullLine w = barely(71, 61);
        w.go(68);
        w.swell(1, 0, 7);
        w.go(1);
        c.eq("69 burn 70.15, of 71", w.of(0, 0), MOORED);
    }

    private static void p18SunkWhenItCantLand() {
        c.promise("18 go: SUNK, when it can't land, too");
        HullLine x = barely(70, 60);
        x.go(70);
        c.eq("circles with its last gallon", x.of(0, 0), AIR);
        c.eq("held", x.mail(0, 16), 11);
        x.go(1);
        c.eq("sunk", x.of(0, 0), SUNK);
        c.eq("held no more", x.mail(0, 16), 11);
        HullLine y = barely(60, 60);
        y.go(60);
        c.eq("circles once", y.of(0, 0), AIR);
        y.go(1);
        c.eq("sunk", y.of(0, 0), SUNK);
    }

    private static void p18AsItIsSunk() {
        c.promise("18 go: no FUEL, all it had is burnt, its BAGS are LOST");
        HullLine x = barely(70, 60);
        x.bag(0, 1, 10, 0);
        x.go(300);
        int[] due = {2, 1, 0, 10000, 71, -1, 0, -1, 0, 0};
        for (int i = 0; i < due.length; i++) {
            c.eq("of(0, " + i + ")", x.of(0, i), due[i]);
        }
        c.eq("burnt", x.count(9), 70);
        c.eq("in tanks", x.count(7), 0);
        c.eq("lost", x.mail(0, 0), 3);
        c.eq("lost: no stop", x.mail(0, 1), NONE);
        c.eq("lost: no boat", x.mail(0, 2), NONE);
        c.eq("lost: not late", x.mail(0, 3), NONE);
        c.eq("one that was not aboard", x.mail(1, 0), 0);
        c.eq("no buoy is taken", x.free(1), 4);
    }

    // ---- 19

    private static void p19NoSuchBoat() {
        c.promise("19 rest: it can't: a MOORED BOAT alone");
        b.range("boat", 0, 0, 1, 0, v -> Bounds.bit(Bounds.pairAnd(new Kind()).rest(v)));
        HullLine x = new HullLine();
        Bounds.busy(x);
        c.no("in the air", x.rest(Bounds.FLIES));
        c.no("sunk", x.rest(Bounds.SANK));
        c.yes("moored", x.rest(Bounds.WAITS));
        HullLine y = Bounds.pairAnd(new Kind());
        y.breaks(0, true);
        c.yes("broken", y.rest(0));
    }

    private static boolean restsWith(int beds, int crew) {
        HullLine x = new HullLine();
        x.stop(1, beds, true);
        new Kind().crew(crew).at(x, 0);
        return x.rest(0);
    }

    private static void p19Beds() {
        c.promise("19 rest: BEDS are as many as its own");
        for (int crew = 2; crew <= 9; crew++) {
            c.no(crew + " heads, a bed less", restsWith(crew - 1, crew));
            c.yes(crew + " heads, just as many", restsWith(crew, crew));
            c.yes(crew + " heads, a bed more", restsWith(crew + 1, crew));
        }
        c.no("no bed", restsWith(0, 2));
        c.yes("60 beds", restsWith(60, 9));
    }

    private static void p19BedsOfSeveral() {
        c.promise("19 rest: the CREWS that REST there and its own");
        for (int beds = 11; beds <= 13; beds++) {
            HullLine x = new HullLine();
            x.stop(4, beds, true);
            x.stop(4, 9, true);
            x.leg(0, 1, 120);
            new Kind().crew(9).at(x, 1);
            new Kind().crew(3).at(x, 0);
            new Kind().crew(5).at(x, 0);
            new Kind().crew(4).at(x, 0);
            c.yes("at the other stop", x.rest(0));
            c.yes("3", x.rest(1));
            c.yes("8", x.rest(2));
            c.eq("12 of " + beds, Bounds.bit(x.rest(3)), beds >= 12 ? 1 : 0);
        }
        HullLine y = new HullLine();
        y.stop(2, 3, true);
        new Kind().crew(3).at(y, 0);
        new Kind().crew(3).at(y, 0);
        y.rest(0);
        y.go(479);
        c.no("the beds are taken for 479 minutes", y.rest(1));
        y.go(1);
        c.yes("and free behind 480", y.rest(1));
    }

    private static void p19For480Minutes() {
        c.promise("19 rest: for 480 MINUTES");
        HullLine x = Bounds.pairAnd(new Kind());
        x.go(100);
        c.eq("not yet", x.of(0, 8), 0);
        x.rest(0);
        c.eq("at once", x.of(0, 8), 1);
        x.go(479);
        c.eq("479", x.of(0, 8), 1);
        x.go(1);
        c.eq("480", x.of(0, 8), 0);
        c.yes("again", x.rest(0));
        x.go(479);
        c.eq("959", x.of(0, 8), 1);
        x.go(1);
        c.eq("960", x.of(0, 8), 0);
        HullLine y = Bounds.pairAnd(new Kind());
        Bounds.goTo(y, 143999);
        c.yes("in the last minute", y.rest(0));
        c.eq("for good", y.of(0, 8), 1);
    }

    private static void p19ItDoes() {
        c.promise("19 rest: false: it does");
        HullLine x = Bounds.pairAnd(new Kind());
        x.rest(0);
        c.no("at once", x.rest(0));
        x.go(479);
        c.no("in its last minute", x.rest(0));
        x.go(1);
        c.eq("it was not made longer", x.of(0, 8), 0);
    }

    private static void p19DutyAtOnce() {
        c.promise("19 rest: DUTY is 0 then at once");
        HullLine x = Bounds.pairAnd(new Kind());
        x.lift(0, 0);
        x.go(60);
        c.eq("duty", x.of(0, 4), 60);
        x.rest(0);
        c.eq("at once", x.of(0, 4), 0);
        x.go(480);
        c.eq("and behind it", x.of(0, 4), 0);
    }

    private static void p19NothingHappens() {
        c.promise("19 rest: false");
        b.nothing("no such boat", Bounds::busy, x -> Bounds.bit(x.rest(5)), 0);
        b.nothing("no such boat", Bounds::busy, x -> Bounds.bit(x.rest(-1)), 0);
        b.nothing("in the air", Bounds::busy, x -> Bounds.bit(x.rest(Bounds.FLIES)), 0);
        b.nothing("sunk", Bounds::busy, x -> Bounds.bit(x.rest(Bounds.SANK)), 0);
        b.nothing("it does", Bounds::busy, x -> Bounds.bit(x.rest(Bounds.RESTS)), 0);
        b.nothing("no beds", Bounds::busy, x -> Bounds.bit(x.rest(Bounds.IN_THE_WAY)), 0);
        HullLine x = new HullLine();
        x.stop(1, 9, true);
        x.stop(1, 2, true);
        x.leg(0, 1, 120);
        x.drums(0, 9);
        new Kind().at(x, 0);
        x.fuel(0, 9);
        x.lift(0, 0);
        x.go(60);
        c.no("2 beds for 3", x.rest(0));
        c.eq("duty stays", x.of(0, 4), 60);
    }

    // ---- 20

    private static void p20NoSuchOne() {
        c.promise("20 breaks: no such one");
        b.range("boat", 0, 0, 1, 0, v -> Bounds.bit(Bounds.pairAnd(new Kind()).breaks(v, true)));
        b.range("mended boat", 0, 0, 1, 0, v -> {
            HullLine x = Bounds.pairAnd(new Kind());
            x.breaks(0, true);
            return Bounds.bit(x.breaks(v, false));
        });
        HullLine x = new HullLine();
        Bounds.busy(x);
        c.no("in the air", x.breaks(Bounds.FLIES, true));
        c.no("in the air", x.breaks(Bounds.FLIES, false));
        c.no("sunk", x.breaks(Bounds.SANK, true));
        c.no("sunk", x.breaks(Bounds.SANK, false));
    }

    private static void p20ItIsSo() {
        c.promise("20 breaks: it is so");
        HullLine x = Bounds.pairAnd(new Kind());
        c.no("mended, as it is", x.breaks(0, false));
        c.eq("is not", x.of(0, 9), 0);
        c.yes("broken", x.breaks(0, true));
        c.eq("is", x.of(0, 9), 1);
        c.no("broken, as it is", x.breaks(0, true));
        c.eq("is", x.of(0, 9), 1);
        c.eq("does not lift", x.lift(0, 0), -6);
        c.yes("mended", x.breaks(0, false));
        c.eq("is not", x.of(0, 9), 0);
        c.eq("lifts", x.lift(0, 0), 60);
    }

    private static void p20NothingHappens() {
        c.promise("20 breaks: false");
        b.nothing("no such boat", Bounds::busy, x -> Bounds.bit(x.breaks(5, true)), 0);
        b.nothing("no such boat", Bounds::busy, x -> Bounds.bit(x.breaks(-1, true)), 0);
        b.nothing("in the air", Bounds::busy, x -> Bounds.bit(x.breaks(Bounds.FLIES, true)), 0);
        b.nothing("sunk", Bounds::busy, x -> Bounds.bit(x.breaks(Bounds.SANK, true)), 0);
        b.nothing("it is so", Bounds::busy, x -> Bounds.bit(x.breaks(Bounds.RESTS, true)), 0);
        b.nothing("it is not", Bounds::busy, x -> Bounds.bit(x.breaks(Bounds.WAITS, false)), 0);
    }

    // ---- 21

    private static HullLine sunk() {
        HullLine x = oneBuoy();
        new Kind().tank(60).at(x, 0);
        x.fuel(0, 2);
        x.swell(1, 0, 8);
        x.lift(0, 0);
        x.go(61);
        return x;
    }

    private static void p21NotSunk() {
        c.promise("21 raise: false: it is not SUNK");
        b.range("boat", 0, 0, 1, 0, v -> Bounds.bit(sunk().raise(v)));
        HullLine x = sunk();
        c.yes("raised", x.raise(0));
        c.no("once", x.raise(0));
        HullLine y = new HullLine();
        Bounds.busy(y);
        c.no("moored", y.raise(Bounds.WAITS));
        c.no("in the air", y.raise(Bounds.FLIES));
    }

    private static void p21NoBuoyIsFree() {
        c.promise("21 raise: false: no BUOY is free");
        HullLine x = sunk();
        new Kind().at(x, 1);
        c.no("the one buoy is taken", x.raise(0));
        c.eq("sunk", x.of(0, 0), SUNK);
        x.fuel(1, 2);
        x.swell(1, 1, 2);
        c.eq("leaves", x.lift(1, 0), 60);
        c.yes("free", x.raise(0));
        c.eq("taken", x.free(1), 0);
        c.eq("no other may come", new Kind().at(x, 1), NONE);
    }

    private static void p21AsItIsRaised() {
        c.promise("21 raise: MOORED, BROKEN, without FUEL");
        HullLine x = sunk();
        x.raise(0);
        int[] due = {0, 1, 0, 10000, 61, -1, 0, -1, 0, 1};
        for (int i = 0; i < due.length; i++) {
            c.eq("of(0, " + i + ")", x.of(0, i), due[i]);
        }
        c.no("broken, as it is", x.breaks(0, true));
        x.swell(1, 0, 2);
        c.eq("no fuel", x.lift(0, 0), -4);
        x.fuel(0, 2);
        c.eq("broken", x.lift(0, 0), -6);
        x.breaks(0, false);
        c.eq("lifts", x.lift(0, 0), 60);
    }

    private static void p21LostBagsStayLost() {
        c.promise("21 raise: its BAGS are LOST");
        HullLine x = barely(70, 60);
        x.bag(1, 0, 20, 0);
        x.go(100);
        c.eq("sunk", x.of(0, 0), SUNK);
        x.raise(0);
        c.eq("lost", x.mail(0, 0), 3);
        Check.rules(x, "lift if bags=0;");
        c.eq("none aboard", x.barred(0, false), NONE);
        x.swell(1, 0, 2);
        x.lift(0, 0);
        x.go(5);
        lost(x, 0, "none lost by a lost bag", 0, 0, 0, 0, 0, 0, 11);
        x.load(1, 0);
        c.eq("weight", x.of(0, 3), 10020);
        x.go(5);
        lost(x, 0, "nor with another aboard", 0, 0, 0, 0, 0, 0, 11);
        lost(x, 1, "but by that one", 0, 0, 5, 0, 0, 0, 0);
    }

    private static void p21NothingHappens() {
        c.promise("21 raise: false");
        b.nothing("no buoy", Bounds::busy, x -> Bounds.bit(x.raise(Bounds.SANK)), 0);
        b.nothing("moored", Bounds::busy, x -> Bounds.bit(x.raise(Bounds.WAITS)), 0);
        b.nothing("in the air", Bounds::busy, x -> Bounds.bit(x.raise(Bounds.FLIES)), 0);
        b.nothing("no such boat", Bounds::busy, x -> Bounds.bit(x.raise(5)), 0);
        b.nothing("no such boat", Bounds::busy, x -> Bounds.bit(x.raise(-1)), 0);
    }
}
