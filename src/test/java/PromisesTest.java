/** Each promise of the document: ordinary inputs, the edges it names, wrong inputs. */
public final class PromisesTest {
    private static final Check c = new Check("PromisesTest");
    private static final int MIN = Integer.MIN_VALUE;
    private static final int MAX = Integer.MAX_VALUE;

    public static void main(String[] args) {
        newObject();
        stops();
        legs();
        drums();
        boats();
        swells();
        winds();
        swellsKnown();
        windsKnown();
        feeding();
        ending();
        ruling();
        faults();
        barring();
        words();
        fuelling();
        lifting();
        refusing();
        turning();
        points();
        going();
        landing();
        sinking();
        resting();
        breaking();
        raising();
        bagging();
        loading();
        unloading();
        mailing();
        asking();
        running();
        suspecting();
        ways();
        waysByNightAndSwell();
        waysByFuel();
        waysAtTheEnd();
        waysOfSeveral();
        counting();
        freeBuoys();
        c.finish();
    }

    /** Stop 0 with a light and 4 buoys, stop 1 likewise, a leg 0 of 120 miles, drums at both. */
    private static HullLine two() {
        HullLine x = new HullLine();
        x.stop(4, 10, true);
        x.stop(4, 10, true);
        x.leg(0, 1, 120);
        x.drums(0, 500);
        x.drums(1, 500);
        return x;
    }

    /** An hour at no wind on leg 0 of two(), burning a gallon a minute, with a tank of 1000. */
    private static int plainBoat(HullLine x, int stop) {
        return x.boat(stop, 10000, 30000, 120, 60, 1000, 3000, 3);
    }

    private static HullLine twoAndBoat(int drums) {
        HullLine x = two();
        plainBoat(x, 0);
        if (drums > 0) {
            x.fuel(0, drums);
        }
        return x;
    }

    private static void goAll(HullLine x, int minutes) {
        for (int left = minutes; left > 0; left -= 1440) {
            x.go(Math.min(left, 1440));
        }
    }

    private static void newObject() {
        c.promise("1 new");
        HullLine x = new HullLine();
        for (int i = 0; i <= 13; i++) {
            c.eq("count(" + i + ")", x.count(i), 0);
        }
        c.eq("NONE", HullLine.NONE, -1);
        c.eq("free(0)", x.free(0), -1);
        c.eq("rules()", x.rules(), 0);
        c.eq("suspects()", x.suspects(), 0);
        c.noOf(x, 0, 0);
        c.noMail(x, 0, 0);
        HullLine y = new HullLine();
        y.stop(1, 0, true);
        c.eq("another object's stops", x.count(1), 0);
    }

    private static void stops() {
        c.promise("2 stop");
        HullLine x = new HullLine();
        int[][] wrong = {{0, 0}, {5, 0}, {-1, 0}, {1, -1}, {1, 61}, {MIN, 0}, {MAX, 0}, {1, MIN}, {1, MAX}};
        for (int[] w : wrong) {
            c.eq("stop(" + w[0] + ", " + w[1] + ")", x.stop(w[0], w[1], true), -1);
        }
        c.eq("nothing happened", x.count(1), 0);
        c.eq("least", x.stop(1, 0, false), 0);
        c.eq("most", x.stop(4, 60, true), 1);
        c.eq("its buoys", x.free(1), 4);
        for (int i = 2; i < 12; i++) {
            c.eq("stop", x.stop(2, 5, true), i);
        }
        c.eq("a 13th", x.stop(2, 5, true), -1);
        c.eq("stops", x.count(1), 12);
    }

    private static void legs() {
        c.promise("3 leg");
        HullLine x = new HullLine();
        x.stop(1, 0, true);
        x.stop(1, 0, true);
        int[][] wrong = {{0, 0, 100}, {0, 2, 100}, {2, 0, 100}, {-1, 0, 100}, {0, -1, 100}, {0, 1, 19}, {0, 1, 901},
            {0, 1, MIN}, {0, 1, MAX}, {MAX, 0, 100}, {0, MIN, 100}};
        for (int[] w : wrong) {
            c.eq("leg(" + w[0] + ", " + w[1] + ", " + w[2] + ")", x.leg(w[0], w[1], w[2]), -1);
        }
        c.eq("least", x.leg(0, 1, 20), 0);
        c.eq("most, the same two", x.leg(1, 0, 900), 1);
        for (int i = 2; i < 30; i++) {
            c.eq("leg", x.leg(0, 1, 100), i);
        }
        c.eq("a 31st", x.leg(0, 1, 100), -1);
        c.eq("legs", x.count(2), 30);
    }

    private static void drums() {
        c.promise("4 drums");
        HullLine x = new HullLine();
        c.eq("no stop", x.drums(0, 1), -1);
        x.stop(1, 0, true);
        x.stop(1, 0, true);
        c.eq("0", x.drums(0, 0), -1);
        c.eq("-5", x.drums(0, -5), -1);
        c.eq("1000", x.drums(0, 1000), -1);
        c.eq("MAX", x.drums(0, MAX), -1);
        c.eq("1", x.drums(0, 1), 1);
        c.eq("998 more", x.drums(0, 998), 999);
        c.eq("1 too many", x.drums(0, 1), -1);
        c.eq("999 at once", x.drums(1, 999), 999);
        c.eq("no such stop", x.drums(2, 1), -1);
        c.eq("no such stop", x.drums(-1, 1), -1);
        c.eq("in all", x.count(8), 1998);
    }

    private static void boats() {
        c.promise("5 boat");
        HullLine x = new HullLine();
        c.eq("no stop", plainBoat(x, 0), -1);
        x.stop(2, 0, true);
        x.stop(4, 0, true);
        x.stop(4, 0, true);
        int[] least = {0, 1000, 1000, 60, 10, 50, 0, 2};
        int[] most = {0, 40000, 90000, 200, 300, 3000, 20000, 9};
        for (int i = 1; i < 8; i++) {
            int[] low = least.clone();
            low[i]--;
            c.eq("below, " + i, boatOf(x, low), -1);
            low[i] = MIN;
            c.eq("far below, " + i, boatOf(x, low), -1);
            int[] high = most.clone();
            high[i]++;
            c.eq("above, " + i, boatOf(x, high), -1);
            high[i] = MAX;
            c.eq("far above, " + i, boatOf(x, high), -1);
        }
        c.eq("none came", x.count(3), 0);
        c.eq("buoys", x.free(0), 2);
        c.eq("least", boatOf(x, least), 0);
        c.eq("most", boatOf(x, most), 1);
        c.eq("no buoy", boatOf(x, least), -1);
        c.eq("no such stop", plainBoat(x, 3), -1);
        c.eq("no such stop", plainBoat(x, -1), -1);
        for (int i = 2; i < 6; i++) {
            c.eq("boat", plainBoat(x, 1), i);
        }
        c.eq("a 7th", plainBoat(x, 2), -1);
        int[] due = {0, 0, 0, 40000, 0, -1, 0, -1, 0, 0};
        for (int i = 0; i < 10; i++) {
            c.eq("of(1, " + i + ")", x.of(1, i), due[i]);
        }
    }

    private static int boatOf(HullLine x, int[] v) {
        return x.boat(v[0], v[1], v[2], v[3], v[4], v[5], v[6], v[7]);
    }

    private static void swells() {
        c.promise("6 swell");
        HullLine x = two();
        int[][] wrong = {{2, 0, 1}, {-1, 0, 1}, {0, -1, 1}, {0, 2400, 1}, {0, 0, -1}, {0, 0, 10}, {MAX, 0, 0}, {0, MAX, 0},
            {0, 0, MAX}, {MIN, MIN, MIN}};
        for (int[] w : wrong) {
            c.eq("swell(" + w[0] + ", " + w[1] + ", " + w[2] + ")", x.swell(w[0], w[1], w[2]), -1);
        }
        c.eq("first", x.swell(0, 2399, 9), 0);
        c.eq("second", x.swell(1, 0, 0), 1);
        c.eq("a wind is numbered with them", x.wind(0, 0, 1), 2);
        for (int i = 3; i < 160; i++) {
            c.eq("swell", x.swell(i & 1, i, i % 10), i);
        }
        c.eq("a 161st", x.swell(0, 0, 0), -1);
        c.eq("a 161st, of wind", x.wind(0, 0, 0), -1);
        c.eq("facts", x.count(4), 160);
    }

    private static void winds() {
        c.promise("7 wind");
        HullLine x = two();
        int[][] wrong = {{1, 0, 1}, {-1, 0, 1}, {0, -1, 1}, {0, 100, 1}, {0, 0, -61}, {0, 0, 61}, {MAX, 0, 0}, {0, MAX, 0},
            {0, 0, MAX}, {MIN, MIN, MIN}};
        for (int[] w : wrong) {
            c.eq("wind(" + w[0] + ", " + w[1] + ", " + w[2] + ")", x.wind(w[0], w[1], w[2]), -1);
        }
        c.eq("first", x.wind(0, 0, -60), 0);
        c.eq("second", x.wind(0, 99, 60), 1);
        c.eq("facts", x.count(4), 2);
        c.eq("told of the way from the first stop", x.windOf(0, 5, 2), -60);
    }

    private static void swellsKnown() {
        c.promise("8 swellOf");
        HullLine x = two();
        c.eq("without", x.swellOf(0, 0, 0), 3);
        x.swell(0, 10, 5);
        x.swell(0, 20, 7);
        x.swell(0, 10, 1);
        x.swell(1, 12, 8);
        x.swell(0, 5, 0);
        c.eq("ahead of all", x.swellOf(0, 4, 5), 3);
        c.eq("at 5", x.swellOf(0, 5, 5), 0);
        c.eq("at 5, by 4", x.swellOf(0, 5, 4), 3);
        c.eq("at 9", x.swellOf(0, 9, 5), 0);
        c.eq("the last told of one hour", x.swellOf(0, 10, 5), 1);
        c.eq("by 2", x.swellOf(0, 10, 2), 5);
        c.eq("by 1", x.swellOf(0, 2399, 1), 5);
        c.eq("the latest hour, not the last told", x.swellOf(0, 2399, 5), 7);
        c.eq("at 19", x.swellOf(0, 19, 5), 1);
        c.eq("at 20", x.swellOf(0, 20, 5), 7);
        c.eq("another stop", x.swellOf(1, 20, 5), 8);
        c.eq("another stop, by 3", x.swellOf(1, 20, 3), 3);
        HullLine y = two();
        y.swell(0, 10, 5);
        y.swell(0, 5, 8);
        c.eq("an earlier hour told later", y.swellOf(0, 12, 2), 5);
        c.eq("that hour", y.swellOf(0, 9, 2), 8);
        int[][] wrong = {{2, 0, 0}, {-1, 0, 0}, {0, -1, 0}, {0, 2400, 0}, {0, 0, -1}, {0, 0, 6}, {MIN, 0, 0}, {0, MAX, 0},
            {0, 0, MAX}};
        for (int[] w : wrong) {
            c.eq("swellOf(" + w[0] + ", " + w[1] + ", " + w[2] + ")", x.swellOf(w[0], w[1], w[2]), -1);
        }
    }

    private static void windsKnown() {
        c.promise("9 windOf");
        HullLine x = two();
        x.leg(1, 0, 300);
        x.wind(0, 10, 5);
        x.wind(0, 20, -7);
        x.wind(0, 10, 1);
        x.wind(1, 12, -1);
        c.eq("without", x.windOf(0, 9, 4), 0);
        c.eq("day 0", x.windOf(0, 0, 4), 0);
        c.eq("the last told of one day", x.windOf(0, 19, 4), 1);
        c.eq("by 2", x.windOf(0, 19, 2), 5);
        c.eq("by 0", x.windOf(0, 19, 0), 0);
        c.eq("the latest day", x.windOf(0, 99, 4), -7);
        c.eq("another leg", x.windOf(1, 12, 4), -1);
        int[][] wrong = {{2, 0, 0}, {-1, 0, 0}, {0, -1, 0}, {0, 100, 0}, {0, 0, -1}, {0, 0, 5}, {MIN, 0, 0}, {0, MAX, 0},
            {0, 0, MAX}};
        for (int[] w : wrong) {
            c.eq("windOf(" + w[0] + ", " + w[1] + ", " + w[2] + ")", x.windOf(w[0], w[1], w[2]), -1000);
        }
    }

    private static void feeding() {
        c.promise("10 feed");
        HullLine x = new HullLine();
        c.eq("the highest byte first", x.feed(0x6c696674, 0x20696620, 0x6461793d, 0x303b2020, 0x20202020), 20);
        c.eq("is read", x.rules(), 1);
        for (int i = 1; i <= 15; i++) {
            c.eq("feed", x.feed(-1, MIN, MAX, 0, i), i * 20);
        }
        c.eq("more than 300", x.feed(0, 0, 0, 0, 0), -1);
        c.eq("none came", x.count(12), 300);
        x.end(281);
        c.eq("281 and 20", x.feed(0, 0, 0, 0, 0), -1);
        x.end(280);
        c.eq("280 and 20", x.feed(0, 0, 0, 0, 0), 300);
    }

    private static void ending() {
        c.promise("11 end");
        HullLine x = new HullLine();
        c.eq("0 of none", x.end(0), 0);
        c.eq("1 of none", x.end(1), -1);
        Check.write(x, "lift if day=0;land if hour=1;");
        c.eq("bytes", x.count(12), 29);
        c.eq("-1", x.end(-1), -1);
        c.eq("MIN", x.end(MIN), -1);
        c.eq("30", x.end(30), -1);
        c.eq("nothing happened", x.count(12), 29);
        c.eq("29", x.end(29), 29);
        c.eq("14", x.end(14), 14);
        c.eq("bytes", x.count(12), 14);
        c.eq("15", x.end(15), -1);
        c.eq("the first line alone", x.rules(), 1);
    }

    private static void ruling() {
        c.promise("12 rules");
        HullLine x = new HullLine();
        c.eq("two lines", Check.rules(x, " lift  if\nswell<5 and free>0;land at 1 if not light=0 ;\n"), 2);
        c.eq("the tape is empty then", x.count(12), 0);
        c.eq("a fault", Check.rules(x, "lift if day=0; oh"), -1 - 1 - 150);
        c.eq("the tape is empty then too", x.count(12), 0);
        c.eq("the rules stay", x.count(13), 2);
        c.eq("no blanks", Check.rules(x, "lift at11if day<1and not hour=2;"), 1);
        c.eq("in place of what was", x.count(13), 1);
        c.eq("none", x.rules(), 0);
        c.eq("none", x.count(13), 0);
        c.eq("all words", Check.rules(x,
            "lift if swell<1 and hour<1 and light<1 and free<1 and fuel<1 and weight<1;land if day>99999 and bags=0;"), 2);
        StringBuilder sixteen = new StringBuilder();
        for (int i = 0; i < 16; i++) {
            sixteen.append("lift if day=0;");
        }
        c.eq("sixteen lines", Check.rules(x, sixteen.toString()), 16);
        c.eq("blanks alone", Check.rules(x, " \n "), 0);
    }

    private static void fault(String text, int kind, int place) {
        HullLine x = new HullLine();
        c.eq("'" + text + "'", Check.rules(x, text), -1 - kind - 10 * place);
    }

    private static void faults() {
        c.promise("12 faults");
        fault("fly", 1, 0);
        fault("lift", 1, 4);
        fault("lift  ", 1, 6);
        fault("land if", 1, 7);
        fault("liftif day=0;", 1, 0);
        fault("liftz if day=0;", 1, 0);
        fault("gift if day=0;", 1, 0);
        fault("alift if day=0;", 1, 0);
        fault("lift zf day=0;", 1, 5);
        fault("lift if zday=0;", 1, 8);
        fault("lift if day=0 nd day=0;", 1, 14);
        fault("lift{if day=0;", 1, 4);
        fault("lift`if day=0;", 1, 4);
        fault("lift at /", 1, 8);
        fault("lift at :", 1, 8);
        fault("lift day=0;", 1, 5);
        fault("lift at if day=0;", 1, 8);
        fault("lift at 5 day=0;", 1, 10);
        fault("lift at 12 if day=0;", 4, 8);
        fault("lift at 99999 if day=0;", 4, 8);
        fault("lift at 000011 if day=0;", 1, 8);
        fault("lift at 100000 if day=0;", 1, 8);
        fault("lift at 5 at 6 if day=0;", 1, 10);
        fault("lift if not not day=0;", 1, 12);
        fault("lift if not;", 1, 11);
        fault("lift if port=0;", 1, 8);
        fault("lift if day 0;", 1, 12);
        fault("lift if day;0;", 1, 11);
        fault("lift if day==0;", 1, 12);
        fault("lift if day#0;", 1, 11);
        fault("lift if day 123456 0;", 1, 12);
        fault("lift if day=0 # lift", 1, 14);
        fault("lift if day=x;", 1, 12);
        fault("lift if day=123456;", 1, 12);
        fault("lift if day=-1;", 1, 12);
        fault("lift if day=0", 1, 13);
        fault("lift if day=0 lift if day=0;", 1, 14);
        fault("lift if day=0 and;", 1, 17);
        fault("lift if day=0 and ", 1, 18);
        fault("lift if day=0;;", 1, 14);
        fault("lift if day=0.", 1, 13);
        fault("Lift if day=0;", 1, 0);
        fault("lift\tif day=0;", 1, 4);
        fault("lift\rif day=0;", 1, 4);
        fault("lift if day=0;" + (char) 0, 1, 14);
        fault("lift if day=0;" + (char) 233, 1, 14);
        fault("lift if day=0;" + (char) 255, 1, 14);
        fault("lift if d#y=0;", 1, 8);
        fault("12", 1, 0);
        fault("<", 1, 0);
        StringBuilder lines = new StringBuilder();
        for (int i = 0; i < 16; i++) {
            lines.append("lift if day=0;");
        }
        fault(lines + " land", 2, 225);
        fault(lines + "lift if", 2, 224);
        fault(lines + " lands", 1, 225);
        fault(lines + ";", 1, 224);
        String terms = "land if day=0 and day=0 and day=0 and day=0 and day=0 and day=0";
        fault(terms, 1, 63);
        fault(terms + " and", 1, 67);
        fault(terms + " and day=0;", 3, 68);
        fault(terms + " and not", 3, 68);
        fault(terms + " and not 5", 3, 68);
        fault(terms + " and bag=0;", 1, 68);
        fault(terms + " and 5", 1, 68);
        HullLine x = new HullLine();
        c.eq("six terms", Check.rules(x, terms + ";"), 1);
        StringBuilder full = new StringBuilder("lift if day=0;");
        while (full.length() < 300) {
            full.append(' ');
        }
        c.eq("300 bytes", Check.rules(x, full.toString()), 1);
        full.setCharAt(299, 'x');
        c.eq("a fault in the last byte", Check.rules(x, full.toString()), -1 - 1 - 2990);
    }

    private static void barring() {
        c.promise("13 barred");
        HullLine x = twoAndBoat(0);
        c.eq("no such boat", x.barred(1, false), -2);
        c.eq("no such boat", x.barred(-1, true), -2);
        c.eq("no rules", x.barred(0, false), -1);
        Check.rules(x, "land if day=1; lift if day=0; lift if hour>5; lift at 1 if day=9; lift at 0 if free<2;");
        c.eq("the first line not so", x.barred(0, false), 2);
        c.eq("landing", x.barred(0, true), 0);
        x.go(360);
        c.eq("the line of its stop", x.barred(0, false), 4);
        x.boat(0, 1000, 9000, 60, 10, 50, 0, 2);
        x.boat(0, 1000, 9000, 60, 10, 50, 0, 2);
        c.eq("all are so", x.barred(0, false), -1);
        Check.rules(x, "lift if day=9;");
        c.eq("other rules", x.barred(0, false), 0);
        x.rules();
        c.eq("no rules", x.barred(0, false), -1);
        x.rules();
        c.eq("no rules again", x.barred(0, false), -1);
        x.fuel(0, 2);
        x.lift(0, 0);
        c.eq("not moored", x.barred(0, false), -2);
    }

    /** Which of the two lines "lift if W=v;" and "lift if not W=v;" is broken tells what a word is worth. */
    private static void worth(HullLine x, String word, int v) {
        Check.rules(x, "lift if " + word + "=" + v + ";");
        c.eq(word + " = " + v, x.barred(0, false), -1);
        Check.rules(x, "lift if not " + word + "=" + v + ";");
        c.eq("not " + word + " = " + v, x.barred(0, false), 0);
        Check.rules(x, "land if " + word + "<" + v + ";");
        c.eq(word + " < " + v, x.barred(0, true), 0);
        Check.rules(x, "land if " + word + ">" + v + ";");
        c.eq(word + " > " + v, x.barred(0, true), 0);
        Check.rules(x, "land if not " + word + ">" + v + " and not " + word + "<" + v + ";");
        c.eq("neither", x.barred(0, true), -1);
        Check.rules(x, "land if " + word + "<" + (v + 1) + ";");
        c.eq(word + " < " + (v + 1), x.barred(0, true), -1);
    }

    private static void words() {
        c.promise("13 words");
        HullLine x = twoAndBoat(3);
        goAll(x, 1440 * 2 + 60 * 5 + 59);
        x.swell(0, 53, 6);
        x.swell(0, 54, 1);
        x.bag(0, 1, 70, 0);
        x.bag(0, 1, 80, 0);
        x.bag(0, 1, 90, 0);
        x.bag(0, 1, 95, 0);
        for (int i = 0; i < 4; i++) {
            x.load(i, 0);
        }
        worth(x, "swell", 6);
        worth(x, "hour", 5);
        worth(x, "light", 1);
        worth(x, "free", 3);
        worth(x, "fuel", 150);
        worth(x, "weight", 10000 + 900 + 335);
        worth(x, "day", 2);
        worth(x, "bags", 4);
        HullLine y = new HullLine();
        y.stop(1, 0, false);
        plainBoat(y, 0);
        worth(y, "light", 0);
        worth(y, "free", 0);
        worth(y, "swell", 3);
        worth(y, "weight", 10000);
    }

    private static void fuelling() {
        c.promise("14 fuel");
        HullLine x = two();
        x.boat(0, 10000, 30000, 120, 60, 120, 3000, 3);
        c.eq("no such boat", x.fuel(1, 1), -1);
        c.eq("no such boat", x.fuel(-1, 1), -1);
        c.eq("0", x.fuel(0, 0), -1);
        c.eq("MIN", x.fuel(0, MIN), -1);
        c.eq("MAX", x.fuel(0, MAX), -1);
        c.eq("501 of 500", x.fuel(0, 501), -1);
        c.eq("nothing happened", x.count(8), 1000);
        c.eq("2", x.fuel(0, 2), 100);
        c.eq("1 more, no room for 30", x.fuel(0, 1), 120);
        c.eq("lost", x.count(10), 30);
        c.eq("drums", x.count(8), 997);
        c.eq("all the others", x.fuel(0, 497), 120);
        c.eq("lost", x.count(10), 30 + 497 * 50);
        c.eq("no drums", x.fuel(0, 1), -1);
        c.eq("tanks", x.count(7), 120);
        x.lift(0, 0);
        c.eq("in the air", x.fuel(0, 1), -1);
    }

    private static void lifting() {
        c.promise("15 lift");
        HullLine x = twoAndBoat(2);
        x.stop(4, 0, true);
        x.leg(1, 2, 50);
        c.eq("no such boat", x.lift(1, 0), -1);
        c.eq("no such boat", x.lift(-1, 0), -1);
        c.eq("no such leg", x.lift(0, 2), -1);
        c.eq("no such leg", x.lift(0, -1), -1);
        c.eq("not at an end of it", x.lift(0, 1), -1);
        c.eq("no cause", x.of(0, 5), -1);
        x.wind(0, 0, -50);
        x.bag(0, 1, 100, 999);
        x.bag(0, 1, 100, 999);
        x.load(0, 0);
        c.eq("120 miles at 70, rounded up: 102.86; fuel for 100", x.lift(0, 0), -4);
        x.fuel(0, 1);
        c.eq("120 miles at 70", x.lift(0, 0), 103);
        c.eq("in the air", x.of(0, 0), 1);
        c.eq("where it goes", x.of(0, 1), 1);
        c.eq("of how many", x.of(0, 7), 103);
        c.eq("so far", x.of(0, 6), 0);
        c.eq("its buoy is free", x.free(0), 4);
        c.eq("minutes of wind at once", x.mail(0, 15), 43);
        c.eq("none for a bag ashore", x.mail(1, 15), 0);
        c.eq("not moored", x.lift(0, 0), -1);
        x.go(103);
        c.eq("landed", x.of(0, 0), 0);
        c.eq("with the wind: 120 miles at 170", x.lift(0, 0), 43);
        c.eq("none more by a good wind", x.mail(0, 15), 43);
        c.eq("lifts", x.count(6), 2);
        HullLine y = two();
        y.boat(1, 1000, 9000, 60, 10, 900, 10, 2);
        y.wind(0, 0, 60);
        y.fuel(0, 10);
        c.eq("20 miles an hour at least", y.lift(0, 0), 360);
        HullLine z = two();
        z.leg(0, 1, 20);
        z.boat(0, 1000, 9000, 109, 61, 900, 10, 2);
        z.fuel(0, 10);
        z.bag(0, 1, 1, 1);
        z.load(0, 0);
        c.eq("20 miles at 109: a little more than 11 minutes", z.lift(0, 1), 12);
        c.eq("no wind, none lost", z.mail(0, 15), 0);
        z.go(12);
        c.eq("12.2 gallons", z.of(0, 2), 500 - 13);
        z.wind(1, 0, 60);
        z.unload(0);
        c.eq("49 miles an hour", z.lift(0, 1), 25);
        z.go(25);
        c.eq("25.4 gallons", z.of(0, 2), 500 - 13 - 26);
        HullLine w = two();
        w.leg(0, 1, 61);
        w.boat(0, 1000, 9000, 60, 61, 900, 10, 2);
        w.fuel(0, 10);
        c.eq("61 minutes", w.lift(0, 1), 61);
        w.go(61);
        c.eq("a little more than 62 gallons", w.of(0, 2), 500 - 63);
    }

    private static void refusing() {
        c.promise("15 refused");
        HullLine x = two();
        x.boat(0, 10000, 12499, 120, 60, 1000, 3000, 3);
        x.breaks(0, true);
        x.rest(0);
        Check.rules(x, "lift if day=1;");
        x.swell(0, 0, 7);
        c.eq("all are against it: rules", x.lift(0, 0), -2);
        c.eq("cause", x.of(0, 5), 0);
        x.rules();
        c.eq("nothing from above 6", x.lift(0, 0), -3);
        c.eq("cause", x.of(0, 5), 1);
        x.swell(0, 0, 6);
        c.eq("12499 less 4 times 499 from 6", x.lift(0, 0), -4);
        x.fuel(0, 1);
        c.eq("50 gallons of 60", x.lift(0, 0), -4);
        c.eq("cause", x.of(0, 5), 2);
        x.fuel(0, 1);
        c.eq("10600 pounds and 10503", x.lift(0, 0), -3);
        x.swell(0, 0, 5);
        c.eq("resting", x.lift(0, 0), -5);
        c.eq("cause", x.of(0, 5), 3);
        x.go(480);
        x.swell(0, 0, 5);
        c.eq("broken", x.lift(0, 0), -6);
        c.eq("cause", x.of(0, 5), 4);
        x.breaks(0, false);
        c.eq("the cause stays till it lifts", x.of(0, 5), 4);
        c.eq("lifts", x.lift(0, 0), 60);
        c.eq("no cause", x.of(0, 5), -1);
        c.eq("one lift", x.count(6), 1);
        water();
        waterOfEachSwell();
        duty();
        justEnoughFuel();
    }

    /** The heaviest weight, to the pound, that is lifted from each swell. */
    private static void waterOfEachSwell() {
        int[] lifts = {12499 - 998, 12499 - 499, 12499, 12499 - 499, 12499 - 998, 12499 - 1497, 12499 - 1996};
        for (int s = 0; s < lifts.length; s++) {
            for (int more = 0; more <= 1; more++) {
                HullLine x = two();
                x.swell(0, 0, s);
                x.boat(0, lifts[s] - 360 + more, 12499, 120, 60, 60, 0, 2);
                x.fuel(0, 2);
                c.eq("from swell " + s + ", " + more + " more", x.lift(0, 0), more == 0 ? 60 : -3);
            }
        }
    }

    private static void justEnoughFuel() {
        for (int tank = 59; tank <= 61; tank++) {
            HullLine x = two();
            x.boat(0, 10000, 20000, 120, 60, tank, 0, 2);
            x.fuel(0, 2);
            c.eq("a tank of " + tank, x.lift(0, 0), tank < 60 ? -4 : 60);
            if (tank >= 60) {
                x.go(60);
                c.eq("lands", x.of(0, 0), 0);
                c.eq("left", x.of(0, 2), tank - 60);
            }
        }
        HullLine y = two();
        y.boat(0, 10000, 20000, 120, 59, 59, 0, 2);
        y.fuel(0, 2);
        y.wind(0, 0, 1);
        c.eq("60 minutes of 59.5 burn 59", y.lift(0, 0), 60);
    }

    private static void water() {
        HullLine x = two();
        x.boat(0, 9700, 10025, 120, 10, 1000, 3000, 3);
        x.fuel(0, 1);
        x.bag(0, 1, 24, 0);
        x.bag(0, 1, 1, 0);
        x.load(0, 0);
        // 10025 from a swell of 2, 401 less for each step; the boat weighs 10024, then 10025, then 10026
        x.swell(0, 0, 1);
        c.eq("from 1", x.lift(0, 0), -3);
        x.swell(0, 0, 3);
        c.eq("from 3", x.lift(0, 0), -3);
        x.swell(0, 0, 2);
        x.load(1, 0);
        c.eq("just so much from 2", x.lift(0, 0), 60);
        HullLine y = two();
        y.boat(0, 9700, 10025, 120, 10, 1000, 3000, 3);
        y.fuel(0, 1);
        y.bag(0, 1, 26, 0);
        y.load(0, 0);
        y.swell(0, 0, 2);
        c.eq("a pound too much", y.lift(0, 0), -3);
    }

    private static void duty() {
        HullLine x = new HullLine();
        x.stop(1, 9, true);
        x.stop(1, 0, true);
        x.leg(0, 1, 420);
        x.drums(0, 99);
        x.drums(1, 99);
        x.boat(0, 1000, 20000, 60, 10, 900, 0, 9);
        x.fuel(0, 10);
        c.eq("420 minutes", x.lift(0, 0), 420);
        x.go(420);
        c.eq("840 in all", x.lift(0, 0), 420);
        x.go(420);
        c.eq("duty", x.of(0, 4), 840);
        c.eq("more than 840", x.lift(0, 0), -5);
        c.yes("rest", x.rest(0));
        x.go(480);
        c.eq("after rest", x.lift(0, 0), 420);
        HullLine y = new HullLine();
        y.stop(1, 9, true);
        y.stop(1, 0, true);
        y.leg(0, 1, 420);
        y.leg(0, 1, 421);
        y.drums(0, 99);
        y.boat(0, 1000, 20000, 60, 10, 900, 0, 9);
        y.fuel(0, 10);
        y.lift(0, 0);
        y.go(420);
        c.eq("841 in all", y.lift(0, 1), -5);
        c.eq("840 in all", y.lift(0, 0), 420);
    }

    private static void turning() {
        c.promise("16 turn");
        HullLine x = twoAndBoat(3);
        c.eq("no such boat", x.turn(1), -1);
        c.eq("no such boat", x.turn(-1), -1);
        c.eq("moored", x.turn(0), -1);
        x.wind(0, 0, 50);
        c.eq("120 miles at 170", x.lift(0, 0), 43);
        c.eq("at once", x.turn(0), -1);
        x.go(1);
        c.eq("a minute: 170 by 70 back", x.turn(0), 4);
        c.eq("goes back", x.of(0, 1), 0);
        c.eq("of how many", x.of(0, 7), 4);
        c.eq("once", x.turn(0), -1);
        x.go(2);
        c.eq("not yet", x.of(0, 0), 1);
        x.go(1);
        c.eq("back", x.of(0, 0), 0);
        c.eq("at", x.of(0, 1), 0);
        c.eq("fuel", x.of(0, 2), 146);
        c.eq("duty", x.of(0, 4), 4);
        c.eq("burnt", x.count(9), 4);
        c.eq("one lift", x.count(6), 1);
        // 146 gallons: e and its 170 by 70, rounded up, are 144 for 42 and 148 for 43
        c.eq("the point", x.point(0, 0), 42);
        c.eq("again", x.lift(0, 0), 43);
        x.go(42);
        c.eq("at the point, with a new lift's turn", x.turn(0), 144);
        turningLate();
        turnedByWindOfItsLift();
    }

    private static void turningLate() {
        HullLine x = twoAndBoat(2);
        x.lift(0, 0);
        x.go(50);
        c.eq("100 of 100 gallons", x.turn(0), 100);
        HullLine y = twoAndBoat(2);
        y.lift(0, 0);
        y.go(51);
        c.eq("102 of 100 gallons", y.turn(0), -1);
        c.eq("nothing happened", y.of(0, 1), 1);
        c.eq("nothing happened", y.of(0, 7), 60);
        HullLine z = twoAndBoat(20);
        z.swell(1, 1, 8);
        z.lift(0, 0);
        z.go(59);
        c.eq("a minute ahead of its end", z.turn(0), 118);
        HullLine w = twoAndBoat(20);
        w.swell(1, 1, 8);
        w.lift(0, 0);
        w.go(60);
        c.eq("circles", w.of(0, 0), 1);
        c.eq("its minutes' end", w.turn(0), -1);
    }

    private static void turnedByWindOfItsLift() {
        HullLine x = twoAndBoat(20);
        x.go(1430);
        x.wind(0, 1, 60);
        x.lift(0, 0);
        x.go(30);
        c.eq("on the next day", x.turn(0), 60);
    }

    private static void points() {
        c.promise("17 point");
        HullLine x = twoAndBoat(0);
        x.stop(1, 0, true);
        x.leg(1, 2, 100);
        c.eq("no fuel", x.point(0, 0), -1);
        x.fuel(0, 1);
        c.eq("50 gallons", x.point(0, 0), 25);
        c.eq("no such boat", x.point(1, 0), -1);
        c.eq("no such leg", x.point(0, 2), -1);
        c.eq("no such leg", x.point(0, -1), -1);
        c.eq("not at an end of it", x.point(0, 1), -1);
        x.fuel(0, 1);
        c.eq("100 gallons", x.point(0, 0), 50);
        x.fuel(0, 1);
        c.eq("all the minutes", x.point(0, 0), 60);
        x.wind(0, 0, 60);
        // out at 180, back at 60: e and three times e
        c.eq("with wind", x.point(0, 0), 37);
        x.lift(0, 0);
        c.eq("in the air", x.point(0, 0), -1);
        HullLine y = two();
        y.boat(0, 1000, 9000, 200, 300, 50, 0, 2);
        y.wind(0, 0, -60);
        y.fuel(0, 1);
        // out at 140, back at 260, 5 gallons a minute: 10 minutes in all
        c.eq("6 and 4", y.point(0, 0), 6);
        for (int tank = 60; tank <= 64; tank++) {
            HullLine z = two();
            z.boat(0, 1000, 9000, 120, 60, tank, 0, 2);
            z.fuel(0, 2);
            z.lift(0, 0);
            z.go(60);
            c.eq("with " + (tank - 60) + " gallons", z.point(0, 0), tank < 62 ? -1 : tank < 64 ? 1 : 2);
        }
    }

    private static void going() {
        c.promise("18 go");
        HullLine x = new HullLine();
        int[] wrong = {0, -1, 1441, MIN, MAX};
        for (int w : wrong) {
            c.eq("go(" + w + ")", x.go(w), -1);
        }
        c.eq("1", x.go(1), 1);
        c.eq("1440", x.go(1440), 1441);
        for (int i = 2; i < 100; i++) {
            c.eq("a day", x.go(1440), 1440 * i + 1);
        }
        c.eq("beyond the last", x.go(1439), -1);
        c.eq("to the last", x.go(1438), 143999);
        c.eq("beyond the last", x.go(1), -1);
        c.eq("now", x.count(0), 143999);
        HullLine y = two();
        y.boat(0, 1000, 1000, 120, 60, 1000, 3000, 3);
        y.bag(0, 1, 50, 0);
        y.load(0, 0);
        y.fuel(0, 2);
        y.go(5);
        for (int i = 10; i <= 16; i++) {
            c.eq("no cause, none lost by " + (i - 10), y.mail(0, i), 0);
        }
        y.lift(0, 0);
        y.go(5);
        c.eq("by the water", y.mail(0, 11), 5);
        y.breaks(0, true);
        Check.rules(y, "lift if day>5;");
        y.lift(0, 0);
        y.go(7);
        c.eq("by the water", y.mail(0, 11), 5);
        c.eq("by a rule", y.mail(0, 10), 7);
        y.unload(0);
        y.go(3);
        c.eq("none ashore", y.mail(0, 10), 7);
    }

    private static void landing() {
        c.promise("18 landing");
        HullLine x = new HullLine();
        x.stop(4, 0, true);
        x.stop(1, 0, false);
        x.leg(0, 1, 120);
        x.drums(0, 500);
        plainBoat(x, 0);
        plainBoat(x, 0);
        x.fuel(0, 20);
        x.fuel(1, 20);
        x.bag(0, 1, 10, 0);
        x.bag(0, 1, 10, 0);
        x.load(0, 0);
        x.load(1, 1);
        goAll(x, 299);
        x.lift(1, 0);
        x.lift(0, 0);
        x.go(60);
        c.eq("night till 360", x.of(0, 0), 1);
        c.eq("held", x.mail(0, 16), 1);
        x.go(1);
        c.eq("the lesser number first", x.of(0, 0), 0);
        c.eq("no buoy for the other", x.of(1, 0), 1);
        c.eq("held", x.mail(0, 16), 1);
        c.eq("held", x.mail(1, 16), 2);
        c.eq("so far", x.of(1, 6), 61);
        c.eq("of how many", x.of(1, 7), 60);
        c.eq("fuel as it lifted", x.of(1, 2), 1000);
        c.eq("fuel of 61 minutes less", x.of(0, 2), 939);
        c.eq("burnt", x.count(9), 61);
        c.eq("duty", x.of(0, 4), 61);
        c.eq("so far, landed", x.of(0, 6), 0);
        c.eq("of how many, landed", x.of(0, 7), -1);
        x.lift(0, 0);
        x.go(1);
        c.eq("a buoy is free", x.of(1, 0), 0);
        landingBySwell();
        landingByRules();
        nightAtEighteen();
    }

    private static void landingBySwell() {
        HullLine x = twoAndBoat(20);
        x.swell(1, 1, 8);
        x.swell(1, 2, 7);
        x.lift(0, 0);
        x.go(119);
        c.eq("8 is too much", x.of(0, 0), 1);
        x.go(1);
        c.eq("7 is not", x.of(0, 0), 0);
    }

    private static void landingByRules() {
        HullLine x = twoAndBoat(20);
        x.bag(0, 1, 400, 0);
        x.load(0, 0);
        // what it had as it lifted: 1000 gallons, 16400 pounds
        Check.rules(x, "land at 1 if fuel=1000 and weight=16400 and bags=1 and free=4 and hour>1;land at 0 if day=9;");
        x.lift(0, 0);
        x.go(119);
        c.eq("not at hour 1", x.of(0, 0), 1);
        c.eq("held", x.mail(0, 16), 60);
        x.go(1);
        c.eq("at hour 2", x.of(0, 0), 0);
        c.eq("fuel", x.of(0, 2), 880);
        HullLine y = twoAndBoat(20);
        Check.rules(y, "land if day=1;");
        y.lift(0, 0);
        y.go(100);
        c.eq("circles", y.of(0, 0), 1);
        y.rules();
        y.go(1);
        c.eq("by the rules of now", y.of(0, 0), 0);
    }

    private static void nightAtEighteen() {
        HullLine x = new HullLine();
        x.stop(4, 0, true);
        x.stop(1, 0, false);
        x.leg(0, 1, 120);
        x.drums(0, 500);
        plainBoat(x, 0);
        plainBoat(x, 0);
        x.fuel(0, 5);
        x.fuel(1, 5);
        x.go(1019);
        x.lift(0, 0);
        x.go(60);
        c.eq("1079 is day", x.of(0, 0), 0);
        HullLine y = new HullLine();
        y.stop(4, 0, true);
        y.stop(1, 0, false);
        y.leg(0, 1, 120);
        y.drums(0, 500);
        plainBoat(y, 0);
        y.fuel(0, 5);
        y.go(1020);
        y.lift(0, 0);
        y.go(60);
        c.eq("1080 is night", y.of(0, 0), 1);
    }

    private static void sinking() {
        c.promise("18 sinking");
        HullLine x = new HullLine();
        x.stop(4, 0, true);
        x.stop(1, 0, true);
        x.leg(0, 1, 120);
        x.drums(0, 500);
        plainBoat(x, 0);
        x.fuel(0, 2);
        x.bag(0, 1, 10, 0);
        x.load(0, 0);
        x.swell(1, 0, 9);
        // at minute 101 it could land, but 101 minutes burn more than 100 gallons
        Check.rules(x, "land if weight=0;");
        x.lift(0, 0);
        x.go(100);
        c.eq("still in the air", x.of(0, 0), 1);
        c.eq("held", x.mail(0, 16), 41);
        x.rules();
        x.swell(1, 0, 0);
        x.go(1);
        c.eq("sunk, though it could land", x.of(0, 0), 2);
        c.eq("there", x.of(0, 1), 1);
        c.eq("no fuel", x.of(0, 2), 0);
        c.eq("weight", x.of(0, 3), 10000);
        c.eq("so far", x.of(0, 6), 0);
        c.eq("of how many", x.of(0, 7), -1);
        c.eq("duty", x.of(0, 4), 101);
        c.eq("not broken yet", x.of(0, 9), 0);
        c.eq("all it had is burnt", x.count(9), 100);
        c.eq("lost", x.mail(0, 0), 3);
        c.eq("at no stop", x.mail(0, 1), -1);
        c.eq("in no boat", x.mail(0, 2), -1);
        c.eq("held", x.mail(0, 16), 41);
        c.eq("no buoy is taken", x.free(1), 1);
        c.no("no unloading", x.unload(0));
        c.no("no rest", x.rest(0));
        c.no("no breaking", x.breaks(0, true));
        c.eq("no fuel", x.fuel(0, 1), -1);
        c.eq("no lift", x.lift(0, 0), -1);
        c.eq("no turn", x.turn(0), -1);
        HullLine y = twoAndBoat(2);
        Check.rules(y, "land at 0 if day=5;");
        y.lift(0, 0);
        y.go(40);
        y.turn(0);
        y.go(61);
        c.eq("sunk where it went back to", y.of(0, 0) * 10 + y.of(0, 1), 20);
        c.yes("raised", x.raise(0));
        c.eq("refused", x.lift(0, 0), -4);
        x.go(5);
        c.eq("nothing is lost by a bag that is lost", x.mail(0, 12), 0);
        Check.rules(x, "lift if bags=0;");
        c.eq("no bags aboard", x.barred(0, false), -1);
    }

    private static void resting() {
        c.promise("19 rest");
        HullLine x = new HullLine();
        x.stop(4, 7, true);
        x.stop(4, 2, true);
        x.leg(0, 1, 20);
        x.drums(0, 50);
        x.boat(0, 1000, 9000, 60, 10, 50, 0, 3);
        x.boat(0, 1000, 9000, 60, 10, 50, 0, 4);
        x.boat(0, 1000, 9000, 60, 10, 50, 0, 2);
        x.boat(1, 1000, 9000, 60, 10, 50, 0, 3);
        c.no("no such boat", x.rest(4));
        c.no("no such boat", x.rest(-1));
        c.no("3 heads, 2 beds", x.rest(3));
        c.yes("3 of 7", x.rest(0));
        c.no("it does", x.rest(0));
        c.yes("7 of 7", x.rest(1));
        c.no("9 of 7", x.rest(2));
        c.eq("rests", x.of(0, 8), 1);
        c.eq("does not", x.of(2, 8), 0);
        x.go(479);
        c.eq("rests", x.of(0, 8), 1);
        x.go(1);
        c.eq("480 minutes", x.of(0, 8), 0);
        c.yes("beds are free again", x.rest(2));
        x.fuel(0, 1);
        x.lift(0, 0);
        c.no("in the air", x.rest(0));
        x.go(20);
        c.eq("duty", x.of(0, 4), 20);
        c.no("3 heads, 2 beds", x.rest(0));
        c.eq("nothing happened", x.of(0, 4), 20);
        HullLine y = twoAndBoat(20);
        y.lift(0, 0);
        y.go(60);
        c.yes("rest", y.rest(0));
        c.eq("duty is 0 at once", y.of(0, 4), 0);
    }

    private static void breaking() {
        c.promise("20 breaks");
        HullLine x = twoAndBoat(2);
        c.no("no such boat", x.breaks(1, true));
        c.no("no such boat", x.breaks(-1, true));
        c.no("it is so", x.breaks(0, false));
        c.yes("broken", x.breaks(0, true));
        c.eq("is", x.of(0, 9), 1);
        c.no("it is so", x.breaks(0, true));
        c.yes("mended", x.breaks(0, false));
        c.eq("is not", x.of(0, 9), 0);
        x.lift(0, 0);
        c.no("in the air", x.breaks(0, true));
    }

    private static void raising() {
        c.promise("21 raise");
        HullLine x = new HullLine();
        x.stop(4, 9, true);
        x.stop(1, 9, false);
        x.leg(0, 1, 120);
        x.drums(0, 500);
        x.drums(1, 500);
        plainBoat(x, 0);
        c.no("no such boat", x.raise(1));
        c.no("no such boat", x.raise(-1));
        c.no("moored", x.raise(0));
        x.fuel(0, 2);
        x.lift(0, 0);
        c.no("in the air", x.raise(0));
        x.go(101);
        c.eq("sunk", x.of(0, 0), 2);
        plainBoat(x, 1);
        c.no("no buoy", x.raise(0));
        c.eq("sunk still", x.of(0, 0), 2);
        x.fuel(1, 2);
        x.lift(1, 0);
        c.yes("raised", x.raise(0));
        c.no("once", x.raise(0));
        c.eq("moored", x.of(0, 0), 0);
        c.eq("there", x.of(0, 1), 1);
        c.eq("broken", x.of(0, 9), 1);
        c.eq("no fuel", x.of(0, 2), 0);
        c.eq("buoys", x.free(1), 0);
        x.fuel(0, 2);
        c.eq("refused", x.lift(0, 0), -6);
    }

    private static void bagging() {
        c.promise("22 bag");
        HullLine x = two();
        int[][] wrong = {{0, 0, 10, 10}, {0, 2, 10, 10}, {2, 0, 10, 10}, {-1, 0, 10, 10}, {0, 1, 0, 10}, {0, 1, 2001, 10},
            {0, 1, 10, -1}, {0, 1, 10, 144000}, {0, 1, MIN, 10}, {0, 1, MAX, 10}, {0, 1, 10, MIN}, {0, 1, 10, MAX}};
        for (int[] w : wrong) {
            c.eq("bag(" + w[0] + ", " + w[1] + ", " + w[2] + ", " + w[3] + ")", x.bag(w[0], w[1], w[2], w[3]), -1);
        }
        c.eq("least", x.bag(0, 1, 1, 0), 0);
        c.eq("most", x.bag(1, 0, 2000, 143999), 1);
        for (int i = 2; i < 30; i++) {
            c.eq("bag", x.bag(0, 1, 10, 10), i);
        }
        c.eq("a 31st", x.bag(0, 1, 10, 10), -1);
        c.eq("bags", x.count(5), 30);
        c.eq("ashore", x.mail(1, 0), 0);
        c.eq("at", x.mail(1, 1), 1);
    }

    private static void loading() {
        c.promise("23 load");
        HullLine x = two();
        x.boat(0, 1000, 9000, 120, 60, 1000, 100, 2);
        x.boat(1, 1000, 9000, 120, 60, 1000, 100, 2);
        x.bag(0, 1, 60, 10);
        x.bag(0, 1, 40, 10);
        x.bag(0, 1, 1, 10);
        x.bag(1, 0, 1, 10);
        c.no("no such bag", x.load(4, 0));
        c.no("no such bag", x.load(-1, 0));
        c.no("no such boat", x.load(0, 2));
        c.no("no such boat", x.load(0, -1));
        c.no("another stop", x.load(0, 1));
        c.yes("60 of 100", x.load(0, 0));
        c.no("it is aboard", x.load(0, 0));
        c.yes("100 of 100", x.load(1, 0));
        c.no("101 of 100", x.load(2, 0));
        c.eq("aboard", x.mail(1, 0), 1);
        c.eq("of the boat", x.mail(1, 2), 0);
        c.eq("weight", x.of(0, 3), 1100);
        x.unload(1);
        c.yes("61 of 100", x.load(2, 0));
        x.fuel(0, 2);
        x.lift(0, 0);
        c.no("in the air", x.load(1, 0));
        x.go(60);
        x.unload(0);
        c.no("delivered", x.load(0, 0));
        c.yes("at the other stop", x.load(3, 0));
    }

    private static void unloading() {
        c.promise("24 unload");
        HullLine x = twoAndBoat(20);
        x.stop(1, 1, true);
        x.bag(0, 1, 60, 10);
        x.bag(0, 2, 60, 10);
        x.bag(0, 1, 60, 10);
        x.bag(0, 1, 60, 500);
        c.no("no such bag", x.unload(4));
        c.no("no such bag", x.unload(-1));
        c.no("ashore", x.unload(0));
        x.load(0, 0);
        x.load(1, 0);
        x.load(3, 0);
        x.load(2, 0);
        c.yes("where it came from", x.unload(2));
        c.eq("ashore", x.mail(2, 0), 0);
        c.eq("in no boat", x.mail(2, 2), -1);
        x.lift(0, 0);
        c.no("in the air", x.unload(0));
        x.go(60);
        c.yes("at its own stop", x.unload(0));
        c.eq("delivered", x.mail(0, 0), 2);
        c.eq("late", x.mail(0, 3), 50);
        c.eq("at", x.mail(0, 1), 1);
        c.no("delivered", x.unload(0));
        c.yes("at a stop between", x.unload(1));
        c.eq("ashore", x.mail(1, 0), 0);
        c.eq("at", x.mail(1, 1), 1);
        c.eq("not late", x.mail(1, 3), -1);
        c.yes("in time", x.unload(3));
        c.eq("in time", x.mail(3, 3), 0);
        c.eq("delivered", x.count(11), 2);
        c.eq("weight", x.of(0, 3), 10000 + 6 * 940);
    }

    private static void mailing() {
        c.promise("25 mail");
        HullLine x = twoAndBoat(20);
        x.bag(0, 1, 60, 10);
        int[] wrong = {-1, 4, 5, 9, 17, 18, MIN, MAX};
        for (int w : wrong) {
            c.noMail(x, 0, w);
        }
        c.noMail(x, 1, 0);
        c.noMail(x, -1, 0);
        c.noMail(x, MIN, MAX);
        c.eq("state", x.mail(0, 0), 0);
        c.eq("stop", x.mail(0, 1), 0);
        c.eq("boat", x.mail(0, 2), -1);
        c.eq("late", x.mail(0, 3), -1);
        for (int i = 10; i <= 16; i++) {
            c.eq("minutes lost", x.mail(0, i), 0);
        }
        x.load(0, 0);
        c.eq("stop, aboard", x.mail(0, 1), -1);
        c.eq("boat, aboard", x.mail(0, 2), 0);
        x.breaks(0, true);
        x.lift(0, 0);
        x.go(2);
        x.breaks(0, false);
        x.rest(0);
        x.lift(0, 0);
        x.go(3);
        c.eq("broken", x.mail(0, 14), 2);
        c.eq("crew", x.mail(0, 13), 3);
        x.go(477);
        x.wind(0, 0, -20);
        x.swell(1, 0, 9);
        x.lift(0, 0);
        c.eq("wind", x.mail(0, 15), 12);
        x.go(80);
        c.eq("held", x.mail(0, 16), 9);
        c.eq("crew", x.mail(0, 13), 480);
        HullLine y = twoAndBoat(0);
        y.bag(0, 1, 60, 10);
        y.load(0, 0);
        y.lift(0, 0);
        y.go(4);
        c.eq("fuel", y.mail(0, 12), 4);
    }

    private static void asking() {
        c.promise("26 of");
        HullLine x = twoAndBoat(3);
        int[] wrong = {-1, 10, 11, MIN, MAX};
        for (int w : wrong) {
            c.noOf(x, 0, w);
        }
        c.noOf(x, 1, 0);
        c.noOf(x, -1, 0);
        c.noOf(x, MAX, 0);
        x.bag(0, 1, 60, 10);
        x.load(0, 0);
        int[] moored = {0, 0, 150, 10960, 0, -1, 0, -1, 0, 0};
        for (int i = 0; i < 10; i++) {
            c.eq("moored, " + i, x.of(0, i), moored[i]);
        }
        x.lift(0, 0);
        x.go(7);
        int[] air = {1, 1, 150, 10960, 7, -1, 7, 60, 0, 0};
        for (int i = 0; i < 10; i++) {
            c.eq("in the air, " + i, x.of(0, i), air[i]);
        }
        x.go(53);
        x.rest(0);
        x.breaks(0, true);
        x.lift(0, 0);
        int[] again = {0, 1, 90, 10600, 0, 3, 0, -1, 1, 1};
        for (int i = 0; i < 10; i++) {
            c.eq("moored again, " + i, x.of(0, i), again[i]);
        }
    }

    private static void running() {
        c.promise("27 run");
        HullLine x = twoAndBoat(20);
        c.no("no lift", x.run(0, 20000));
        x.lift(0, 0);
        c.no("-1", x.run(-1, 20000));
        c.no("no such lift", x.run(1, 20000));
        c.no("no such weight", x.run(0, 200001));
        c.no("no such weight", x.run(0, -1));
        c.no("no such weight", x.run(0, MAX));
        c.yes("most", x.run(0, 200000));
        c.no("0", x.run(0, 0));
        c.no("99 above", x.run(0, 16099));
        c.yes("100 above", x.run(0, 16100));
        manyLifts();
    }

    private static void manyLifts() {
        HullLine x = new HullLine();
        x.stop(1, 60, true);
        x.stop(1, 60, true);
        x.leg(0, 1, 20);
        x.drums(0, 999);
        x.boat(0, 1000, 90000, 200, 10, 3000, 100, 2);
        x.fuel(0, 60);
        for (int i = 0; i < 210; i++) {
            c.eq("lift", x.lift(0, 0), 6);
            x.go(6);
            if (i % 100 == 99) {
                x.rest(0);
                x.go(480);
            }
        }
        c.eq("200 are kept", x.count(6), 200);
        c.yes("the 200th", x.run(199, 200000));
        c.no("no 201st", x.run(200, 200000));
    }

    private static void suspecting() {
        c.promise("28 suspects");
        HullLine x = two();
        x.boat(0, 10000, 90000, 120, 60, 3000, 20000, 3);
        x.fuel(0, 60);
        for (int i = 0; i < 30; i++) {
            x.bag(0, 1, 10, 10);
        }
        for (int i = 0; i < 30; i++) {
            x.load(i, 0);
        }
        x.lift(0, 0);
        x.go(60);
        x.unload(0);
        x.lift(0, 0);
        x.go(60);
        for (int i = 1; i < 28; i++) {
            x.unload(i);
        }
        x.load(5, 0);
        x.lift(0, 0);
        x.go(60);
        x.unload(29);
        x.lift(0, 0);
        c.eq("none found", x.suspects(), 0);
        x.run(0, 0);
        c.eq("no excess", x.suspects(), 0);
        x.run(0, 200000);
        c.eq("all 30", x.suspects(), 0x3fffffff);
        x.run(1, 200000);
        c.eq("not bag 0", x.suspects(), 0x3ffffffe);
        x.run(2, 200000);
        c.eq("5, 28, 29", x.suspects(), 1 << 5 | 1 << 28 | 1 << 29);
        x.run(3, 0);
        c.eq("29", x.suspects(), 1 << 29);
        x.run(3, 200000);
        c.eq("5, 28", x.suspects(), 1 << 5 | 1 << 28);
        x.run(3, 0);
        x.run(2, 0);
        c.eq("not 5, 28, 29", x.suspects(), 0x3ffffffe & ~(1 << 5 | 1 << 28 | 1 << 29));
        x.run(0, 0);
        c.eq("none", x.suspects(), 0);
    }

    private static void ways() {
        c.promise("29 way");
        HullLine x = two();
        x.stop(1, 0, true);
        x.leg(1, 2, 60);
        c.eq("no boat", x.way(0, 0, 1, 0, 0, 0), -1);
        plainBoat(x, 0);
        int[][] wrong = {{1, 0, 1, 0, 0, 0}, {-1, 0, 1, 0, 0, 0}, {0, 0, 0, 0, 0, 0}, {0, 3, 1, 0, 0, 0}, {0, 0, 3, 0, 0, 0},
            {0, 0, -1, 0, 0, 0}, {0, 0, 1, -1, 0, 0}, {0, 0, 1, 144000, 0, 0}, {0, 0, 1, 0, -1, 0}, {0, 0, 1, 0, 1, 0},
            {0, 0, 1, 0, 0, -1}, {0, 0, 1, 0, 0, 2}, {0, 0, 1, 0, 0, 9}, {0, 0, 1, 0, 0, 11}, {0, 0, 1, 0, 0, 15},
            {0, 0, 1, 0, 0, MAX}, {0, 0, 1, 0, 0, MIN}, {0, 0, 1, MAX, 0, 0}, {0, 0, 1, 0, MAX, 0}};
        for (int[] w : wrong) {
            c.eq("way " + java.util.Arrays.toString(w), x.way(w[0], w[1], w[2], w[3], w[4], w[5]), -1);
        }
        c.eq("an hour", x.way(0, 0, 1, 17, 0, 0), 77);
        c.eq("one leg", x.way(0, 0, 1, 17, 0, 1), 1);
        c.eq("leg 0", x.way(0, 0, 1, 17, 0, 10), 0);
        c.eq("an hour and a half", x.way(0, 0, 2, 17, 0, 0), 107);
        c.eq("two legs", x.way(0, 0, 2, 17, 0, 1), 2);
        c.eq("leg 0", x.way(0, 0, 2, 17, 0, 10), 0);
        c.eq("leg 1", x.way(0, 0, 2, 17, 0, 11), 1);
        c.eq("no third", x.way(0, 0, 2, 17, 0, 12), -1);
        c.eq("back", x.way(0, 2, 0, 17, 0, 0), 107);
        c.eq("leg 1", x.way(0, 2, 0, 17, 0, 10), 1);
        x.wind(0, 0, -60);
        c.eq("by the wind", x.way(0, 0, 1, 17, 1, 0), 137);
        c.eq("the other way", x.way(0, 1, 0, 17, 1, 0), 57);
        c.eq("by none", x.way(0, 0, 1, 17, 0, 0), 77);
        x.stop(1, 0, true);
        c.eq("no leg to it", x.way(0, 0, 3, 0, 1, 0), -1);
    }

    private static void waysByNightAndSwell() {
        HullLine x = new HullLine();
        x.stop(1, 0, true);
        x.stop(1, 0, false);
        x.leg(0, 1, 120);
        plainBoat(x, 0);
        c.eq("ahead of the night", x.way(0, 0, 1, 1019, 0, 0), 1079);
        c.eq("on the next day", x.way(0, 0, 1, 1020, 0, 0), 1800);
        c.eq("full hours", x.way(0, 0, 1, 1021, 0, 0), 1800);
        c.eq("to a light", x.way(0, 1, 0, 1021, 0, 0), 1081);
        x.swell(0, 5, 7);
        x.swell(0, 8, 6);
        c.eq("swell", x.way(0, 0, 1, 250, 2, 0), 540);
        c.eq("swell not known", x.way(0, 0, 1, 301, 0, 0), 361);
        c.eq("at once", x.way(0, 0, 1, 480, 2, 0), 540);
        x.swell(0, 30, 7);
        x.swell(0, 54, 6);
        c.eq("the 24th full hour", x.way(0, 0, 1, 1800, 4, 0), 3300);
        x.swell(0, 54, 7);
        x.swell(0, 55, 6);
        c.eq("24 hours at most", x.way(0, 0, 1, 1800, 6, 0), -1);
        c.eq("from the next minute on", x.way(0, 0, 1, 1860, 6, 0), 3360);
        x.swell(1, 0, 9);
        c.eq("the swell where it lands is not asked", x.way(0, 0, 1, 480, 7, 0), 540);
    }

    private static void waysByFuel() {
        HullLine x = new HullLine();
        for (int i = 0; i < 4; i++) {
            x.stop(1, 0, true);
        }
        x.leg(0, 1, 120);
        x.leg(1, 2, 120);
        x.leg(2, 3, 120);
        x.boat(0, 1000, 9000, 120, 60, 120, 0, 2);
        c.eq("a tank for two", x.way(0, 0, 2, 0, 0, 0), 120);
        c.eq("not for three", x.way(0, 0, 3, 0, 0, 0), -1);
        x.drums(2, 1);
        c.eq("a full tank again", x.way(0, 0, 3, 0, 0, 0), 180);
        x.boat(1, 1000, 9000, 120, 60, 119, 0, 2);
        c.eq("not for two", x.way(1, 0, 2, 0, 0, 0), -1);
        x.drums(1, 1);
        c.eq("again", x.way(1, 0, 3, 0, 0, 0), 180);
        x.wind(0, 0, -60);
        x.boat(2, 1000, 9000, 120, 60, 60, 0, 2);
        c.eq("fuel is for the first start that may be, not for a later one", x.way(2, 0, 1, 1430, 1, 0), -1);
        x.wind(0, 1, 0);
        c.eq("that one", x.way(2, 0, 1, 1430, 2, 0), -1);
        c.eq("on the next day", x.way(2, 0, 1, 1440, 2, 0), 1500);
    }

    private static void waysAtTheEnd() {
        HullLine x = two();
        x.boat(0, 1000, 9000, 120, 60, 3000, 0, 2);
        x.wind(0, 99, 0);
        x.wind(0, 98, -60);
        // at 142500 it is day 98; 60 miles an hour
        c.eq("in the last minute", x.way(0, 0, 1, 143939, 0, 0), 143999);
        c.eq("behind it", x.way(0, 0, 1, 143940, 0, 0), -1);
        c.eq("no later start", x.way(0, 0, 1, 143999, 0, 0), -1);
        HullLine y = new HullLine();
        y.stop(1, 0, true);
        y.stop(1, 0, true);
        y.leg(0, 1, 900);
        y.boat(0, 1000, 9000, 60, 10, 3000, 0, 2);
        y.wind(0, 98, -40);
        y.wind(0, 99, 60);
        // on day 98 2700 minutes would end behind the last; on day 99 it takes 450
        c.eq("a later start that comes in time", y.way(0, 0, 1, 142000, 2, 0), 142560 + 450);
    }

    private static void waysOfSeveral() {
        HullLine x = new HullLine();
        for (int i = 0; i < 7; i++) {
            x.stop(1, 0, true);
        }
        x.boat(0, 1000, 9000, 120, 60, 3000, 0, 2);
        x.leg(1, 2, 120);
        x.leg(0, 2, 240);
        x.leg(0, 1, 120);
        x.leg(1, 0, 120);
        c.eq("as early: the lesser leg first", x.way(0, 0, 2, 0, 0, 10), 1);
        c.eq("one leg", x.way(0, 0, 2, 0, 0, 1), 1);
        c.eq("of two alike the lesser", x.way(0, 0, 1, 0, 0, 10), 2);
        x.leg(2, 3, 20);
        x.leg(3, 4, 20);
        x.leg(4, 5, 20);
        x.leg(5, 6, 20);
        c.eq("five legs", x.way(0, 0, 6, 0, 0, 1), 5);
        int[] due = {1, 4, 5, 6, 7};
        for (int i = 0; i < 5; i++) {
            c.eq("leg " + i, x.way(0, 0, 6, 0, 0, 10 + i), due[i]);
        }
        x.wind(1, 0, -60);
        c.eq("earlier by six legs, but five at most", x.way(0, 0, 6, 0, 1, 0), 240 + 40);
        c.eq("by two legs", x.way(0, 0, 2, 0, 1, 10), 2);
        c.eq("by two legs", x.way(0, 0, 2, 0, 1, 11), 0);
        noStopTwice();
    }

    /** Going round once more would pass the time till the wind is good. */
    private static void noStopTwice() {
        HullLine x = new HullLine();
        x.stop(1, 0, true);
        x.stop(1, 0, true);
        x.stop(1, 0, true);
        x.leg(0, 1, 20);
        x.leg(0, 2, 900);
        x.boat(0, 1000, 9000, 60, 10, 3000, 0, 2);
        x.wind(1, 0, -60);
        x.wind(1, 1, 60);
        c.eq("by a bad wind", x.way(0, 0, 2, 1430, 2, 0), 1430 + 2700);
        c.eq("one leg", x.way(0, 0, 2, 1430, 2, 1), 1);
        c.eq("by a good wind", x.way(0, 0, 2, 1440, 2, 0), 1440 + 450);
        c.eq("from a stop ahead of it", x.way(0, 1, 2, 1430, 2, 0), 1450 + 450);
    }

    private static void counting() {
        c.promise("30 count");
        HullLine x = twoAndBoat(3);
        x.stop(1, 1, true);
        x.bag(0, 1, 5, 5);
        x.bag(1, 0, 5, 5);
        x.load(0, 0);
        x.wind(0, 0, 0);
        x.swell(0, 0, 2);
        x.swell(0, 0, 2);
        x.boat(1, 1000, 9000, 60, 10, 60, 9, 2);
        x.fuel(1, 2);
        x.lift(0, 0);
        c.eq("fuel in the air as it lifted", x.count(7), 210);
        x.go(60);
        x.unload(0);
        Check.rules(x, "lift if day=0; land if day=0; lift if day=0;");
        Check.write(x, "lift");
        int[] due = {60, 3, 1, 2, 3, 2, 1, 150, 995, 60, 40, 1, 4, 3};
        for (int i = 0; i < due.length; i++) {
            c.eq("count(" + i + ")", x.count(i), due[i]);
        }
        int[] wrong = {-1, 14, MIN, MAX};
        for (int w : wrong) {
            c.eq("count(" + w + ")", x.count(w), -1);
        }
    }

    private static void freeBuoys() {
        c.promise("31 free");
        HullLine x = two();
        c.eq("no such stop", x.free(2), -1);
        c.eq("no such stop", x.free(-1), -1);
        c.eq("no such stop", x.free(MAX), -1);
        c.eq("all", x.free(0), 4);
        plainBoat(x, 0);
        plainBoat(x, 0);
        c.eq("two taken", x.free(0), 2);
        x.fuel(0, 2);
        x.lift(0, 0);
        c.eq("one taken", x.free(0), 3);
        x.go(59);
        c.eq("none yet", x.free(1), 4);
        x.go(1);
        c.eq("landed", x.free(1), 3);
    }
}
