/** Promise 29 at the boundaries that the document names. */
public final class BoundsWayTest {
    private static final Check c = new Check("BoundsWayTest");
    private static final Bounds b = new Bounds(c);
    private static final int NONE = HullLine.NONE;

    public static void main(String[] args) {
        p29NoSuchOnes();
        p29NoSuchMinute();
        p29NoSuchN();
        p29What();
        p29ThereIsNone();
        p29OneToFiveLegs();
        p29NoStopTwice();
        p29AtTheMinuteOrAFullHour();
        p29TheNext24FullHours();
        p29WaitsAtEachStop();
        p29SwellSixOrLess();
        p29SwellOfTheHour();
        p29NotNightAsItComes();
        p29LightAsItComes();
        p29WindOfThatDay();
        p29InTheLastMinute();
        p29FirstStartThatMayBe();
        p29FuelToTheGallon();
        p29FullTankAgain();
        p29FuelLegByLeg();
        p29DrumsAsNow();
        p29NoneOfTheseAreAsked();
        p29AsKnown();
        p29EarliestComing();
        p29OfSeveralTheFirst();
        p29PastLegsThatDoNotServe();
        p29ManyLegs();
        p29AsksAlone();
        c.finish();
    }

    /** Stops in a row, a leg of 120 miles, an hour, from each to the next; no drums; a boat at stop 0. */
    private static HullLine row(int stops, Kind kind) {
        HullLine x = new HullLine();
        for (int i = 0; i < stops; i++) {
            x.stop(4, 9, true);
        }
        for (int i = 0; i + 1 < stops; i++) {
            x.leg(i, i + 1, 120);
        }
        kind.at(x, 0);
        return x;
    }

    private static HullLine two() {
        return row(2, new Kind());
    }

    private static int coming(HullLine x, int from, int to, int minute) {
        return x.way(0, from, to, minute, x.count(4), 0);
    }

    private static void p29NoSuchOnes() {
        c.promise("29 way: no such ones");
        b.range("boat", 0, 0, 60, NONE, v -> two().way(v, 0, 1, 0, 0, 0));
        b.range("from", 0, 0, 60, NONE, v -> two().way(0, v, 1, 0, 0, 0));
        b.range("to", 1, 1, 60, NONE, v -> two().way(0, 0, v, 0, 0, 0));
        b.range("boat of six", 0, 5, 60, NONE, v -> {
            HullLine x = two();
            for (int i = 1; i < 6; i++) {
                new Kind().at(x, i / 3);
            }
            return x.way(v, 0, 1, 0, 0, 0);
        });
        c.eq("from a stop to itself", two().way(0, 0, 0, 0, 0, 0), NONE);
        c.eq("from a stop to itself", two().way(0, 1, 1, 0, 0, 0), NONE);
        c.eq("to the stop next to the last", two().way(0, 0, 2, 0, 0, 0), NONE);
    }

    private static void p29NoSuchMinute() {
        c.promise("29 way: no such MINUTE");
        c.eq("0", two().way(0, 0, 1, 0, 0, 0), 60);
        b.outside("minute", 0, 143999, NONE, v -> two().way(0, 0, 1, v, 0, 0));
        HullLine x = two();
        x.go(500);
        c.eq("one that is over", x.way(0, 0, 1, 17, 0, 0), 77);
        c.eq("one that is to come", x.way(0, 0, 1, 5000, 0, 0), 5060);
    }

    private static void p29NoSuchN() {
        c.promise("29 way: no such n");
        b.range("n of none", 0, 0, 60, NONE, v -> two().way(0, 0, 1, 0, v, 0));
        b.range("n of 160", 0, 160, 60, NONE, v -> {
            HullLine x = two();
            for (int i = 0; i < 160; i++) {
                x.swell(0, 0, 2);
            }
            return x.way(0, 0, 1, 0, v, 0);
        });
    }

    private static void p29What() {
        c.promise("29 way: what 0, 1, 10 and k (NONE: not so many)");
        for (int legs = 1; legs <= 5; legs++) {
            HullLine x = row(6, new Kind());
            c.eq("coming", x.way(0, 0, legs, 7, 0, 0), 7 + 60 * legs);
            c.eq("legs", x.way(0, 0, legs, 7, 0, 1), legs);
            for (int k = 0; k <= 6; k++) {
                c.eq("leg " + k + " of " + legs, x.way(0, 0, legs, 7, 0, 10 + k), k < legs ? k : NONE);
            }
            for (int what = 2; what <= 9; what++) {
                c.eq("what " + what, x.way(0, 0, legs, 7, 0, what), NONE);
            }
        }
        b.outside("what", 0, 14, NONE, v -> row(6, new Kind()).way(0, 0, 5, 0, 0, v));
    }

    private static void p29ThereIsNone() {
        c.promise("29 way: NONE: there is none");
        HullLine x = two();
        x.stop(1, 1, true);
        for (int what : new int[] {0, 1, 10, 14}) {
            c.eq("no leg to it, what " + what, x.way(0, 0, 2, 0, 0, what), NONE);
            c.eq("no leg from it, what " + what, x.way(0, 2, 0, 0, 0, what), NONE);
        }
        HullLine y = Bounds.line(2);
        new Kind().at(y, 0);
        c.eq("no legs", y.way(0, 0, 1, 0, 0, 0), NONE);
    }

    private static void p29OneToFiveLegs() {
        c.promise("29 way: 1 to 5 LEGS");
        HullLine x = row(12, new Kind());
        for (int to = 1; to <= 11; to++) {
            c.eq("to stop " + to, coming(x, 0, to, 0), to <= 5 ? 60 * to : NONE);
            c.eq("to stop " + to + ", legs", x.way(0, 0, to, 0, 0, 1), to <= 5 ? to : NONE);
        }
        c.eq("back by five", coming(x, 11, 6, 0), 300);
        c.eq("back by six", coming(x, 11, 5, 0), NONE);
        // six legs of 20 miles would come earlier than one of 900
        HullLine y = new HullLine();
        for (int i = 0; i < 7; i++) {
            y.stop(1, 0, true);
        }
        new Kind().at(y, 0);
        for (int i = 0; i < 6; i++) {
            y.leg(i, i + 1, 20);
        }
        c.eq("five of 20", coming(y, 0, 5, 0), 50);
        y.leg(0, 6, 900);
        c.eq("one of 900, not six of 20", coming(y, 0, 6, 0), 450);
        c.eq("its leg", y.way(0, 0, 6, 0, 0, 10), 6);
    }

    /** By a second turn at stop 0 it would go with the good wind of the next day. */
    private static void p29NoStopTwice() {
        c.promise("29 way: no STOP twice");
        HullLine x = new HullLine();
        x.stop(1, 0, true);
        x.stop(1, 0, true);
        x.stop(1, 0, true);
        x.leg(0, 1, 20);
        x.leg(0, 2, 900);
        new Kind().speed(60).burn(10).tank(3000).at(x, 0);
        x.wind(1, 0, -60);
        x.wind(1, 1, 60);
        c.eq("not back to its first stop", coming(x, 0, 2, 1410), 1410 + 2700);
        c.eq("from stop 1 it does", coming(x, 1, 2, 1420), 1440 + 450);
        // stop 1 twice: to stop 2 and back, then on
        HullLine y = new HullLine();
        for (int i = 0; i < 4; i++) {
            y.stop(1, 0, true);
        }
        y.leg(0, 1, 20);
        y.leg(1, 2, 20);
        y.leg(1, 3, 900);
        new Kind().speed(60).burn(10).tank(3000).at(y, 0);
        y.wind(2, 0, -60);
        y.wind(2, 1, 60);
        c.eq("not back to a stop between", coming(y, 0, 3, 1380), 1400 + 2700);
        c.eq("two legs", y.way(0, 0, 3, 1380, 2, 1), 2);
    }

    private static HullLine rough(int untilHour) {
        HullLine x = two();
        x.swell(0, 0, 7);
        if (untilHour <= 2399) {
            x.swell(0, untilHour, 6);
        }
        return x;
    }

    private static void p29AtTheMinuteOrAFullHour() {
        c.promise("29 way: at the MINUTE, or else as one of the next full HOURS begins");
        c.eq("at the minute", coming(two(), 0, 1, 61), 121);
        c.eq("at the minute, the last of an hour", coming(two(), 0, 1, 119), 179);
        c.eq("at the minute, the first of an hour", coming(two(), 0, 1, 120), 180);
        c.eq("61: hour 2", coming(rough(2), 0, 1, 61), 180);
        c.eq("119: hour 2", coming(rough(2), 0, 1, 119), 180);
        c.eq("60: hour 2", coming(rough(2), 0, 1, 60), 180);
        c.eq("120: at once", coming(rough(2), 0, 1, 120), 180);
        c.eq("121: at once", coming(rough(2), 0, 1, 121), 181);
    }

    private static void p29TheNext24FullHours() {
        c.promise("29 way: one of the next 24 full HOURS");
        c.eq("from 61, hour 24", coming(rough(24), 0, 1, 61), 1500);
        c.eq("from 61, hour 25, the 24th", coming(rough(25), 0, 1, 61), 1560);
        c.eq("from 61, hour 26, the 25th", coming(rough(26), 0, 1, 61), NONE);
        c.eq("from 119, hour 25, the 24th", coming(rough(25), 0, 1, 119), 1560);
        c.eq("from 119, hour 26, the 25th", coming(rough(26), 0, 1, 119), NONE);
        c.eq("from 120, hour 26, the 24th", coming(rough(26), 0, 1, 120), 1620);
        c.eq("from 120, hour 27, the 25th", coming(rough(27), 0, 1, 120), NONE);
        c.eq("from 60, hour 25, the 24th", coming(rough(25), 0, 1, 60), 1560);
        c.eq("from 59, hour 25, the 25th", coming(rough(25), 0, 1, 59), NONE);
        c.eq("from 0, hour 24, the 24th", coming(rough(24), 0, 1, 0), 1500);
        c.eq("from 0, hour 25, the 25th", coming(rough(25), 0, 1, 0), NONE);
        c.eq("never", coming(rough(2400), 0, 1, 61), NONE);
    }

    private static void p29WaitsAtEachStop() {
        c.promise("29 way: at each STOP ahead of the last it goes on as soon as it can");
        for (int hour = 25; hour <= 27; hour++) {
            HullLine x = row(3, new Kind());
            x.swell(1, 0, 7);
            x.swell(1, hour, 6);
            // it is at stop 1 in minute 120; the 24th full hour is 26
            c.eq("at stop 1 till hour " + hour, coming(x, 0, 2, 60), hour <= 26 ? hour * 60 + 60 : NONE);
        }
        HullLine y = row(3, new Kind());
        y.swell(0, 0, 7);
        y.swell(0, 24, 6);
        y.swell(1, 0, 7);
        y.swell(1, 49, 6);
        c.eq("24 hours at each", coming(y, 0, 2, 0), 50 * 60);
        HullLine z = row(2, new Kind());
        z.swell(1, 0, 9);
        c.eq("the last stop's swell is not asked", coming(z, 0, 1, 60), 120);
    }

    private static void p29SwellSixOrLess() {
        c.promise("29 way: SWELL is 6 or less");
        for (int swell = 0; swell <= 9; swell++) {
            HullLine x = two();
            x.swell(0, 0, swell);
            x.swell(0, 3, 2);
            c.eq("swell " + swell, coming(x, 0, 1, 61), swell <= 6 ? 121 : 240);
        }
    }

    private static void p29SwellOfTheHour() {
        c.promise("29 way: SWELL of the HOUR in which it goes on");
        HullLine x = two();
        x.swell(0, 2, 7);
        x.swell(0, 4, 6);
        c.eq("119", coming(x, 0, 1, 119), 179);
        c.eq("120", coming(x, 0, 1, 120), 300);
        c.eq("239", coming(x, 0, 1, 239), 300);
        c.eq("240", coming(x, 0, 1, 240), 300);
        c.eq("241", coming(x, 0, 1, 241), 301);
    }

    private static HullLine dark() {
        HullLine x = new HullLine();
        x.stop(1, 0, false);
        x.stop(1, 0, false);
        x.leg(0, 1, 120);
        new Kind().at(x, 0);
        return x;
    }

    private static void p29NotNightAsItComes() {
        c.promise("29 way: as it comes, it is not NIGHT");
        c.eq("comes in 359: later", coming(dark(), 0, 1, 299), 360);
        c.eq("comes in 360", coming(dark(), 0, 1, 300), 360);
        c.eq("comes in 361", coming(dark(), 0, 1, 301), 361);
        c.eq("comes in 1079", coming(dark(), 0, 1, 1019), 1079);
        c.eq("comes in 1080: the next morning", coming(dark(), 0, 1, 1020), 1800);
        c.eq("comes in 1081: the next morning", coming(dark(), 0, 1, 1021), 1800);
        c.eq("comes in 1439: the next morning", coming(dark(), 0, 1, 1379), 1800);
        c.eq("comes in 1440: the next morning", coming(dark(), 0, 1, 1380), 1800);
        c.eq("from 0", coming(dark(), 0, 1, 0), 360);
        c.eq("it may go by night", coming(dark(), 0, 1, 310), 370);
        c.eq("on the last day, by day", coming(dark(), 0, 1, 142560 + 1019), 142560 + 1079);
        c.eq("on the last day, by night", coming(dark(), 0, 1, 142560 + 1020), NONE);
    }

    private static void p29LightAsItComes() {
        c.promise("29 way: or there is a LIGHT");
        int[] minutes = {0, 298, 299, 300, 1019, 1020, 1380, 143939};
        for (int minute : minutes) {
            c.eq("to a light from " + minute, coming(two(), 0, 1, minute), minute + 60);
        }
        HullLine x = new HullLine();
        x.stop(1, 0, true);
        x.stop(1, 0, false);
        x.leg(0, 1, 120);
        new Kind().at(x, 0);
        c.eq("the light is asked where it comes", coming(x, 0, 1, 0), 360);
        c.eq("not where it goes from", coming(x, 1, 0, 0), 60);
        HullLine y = new HullLine();
        y.stop(1, 0, true);
        y.stop(1, 0, false);
        y.stop(1, 0, true);
        y.leg(0, 1, 120);
        y.leg(1, 2, 120);
        new Kind().at(y, 0);
        c.eq("at a stop between, too", coming(y, 0, 2, 0), 420);
    }

    private static void p29WindOfThatDay() {
        c.promise("29 way: by the WIND of that DAY");
        HullLine x = two();
        x.wind(0, 1, 60);
        x.wind(0, 2, -60);
        c.eq("1439", coming(x, 0, 1, 1439), 1499);
        c.eq("1440", coming(x, 0, 1, 1440), 1480);
        c.eq("2879", coming(x, 0, 1, 2879), 2919);
        c.eq("2880", coming(x, 0, 1, 2880), 3000);
        c.eq("the other way, 1440", coming(x, 1, 0, 1440), 1560);
        c.eq("the other way, 2880", coming(x, 1, 0, 2880), 2920);
        HullLine y = two();
        y.wind(0, 1, 60);
        y.swell(0, 23, 7);
        y.swell(0, 24, 6);
        c.eq("of the day on which it goes on", coming(y, 0, 1, 1400), 1480);
        HullLine z = row(2, new Kind().speed(60));
        z.wind(0, 0, -60);
        c.eq("20 miles an hour at least", coming(z, 0, 1, 0), 360);
        HullLine w = row(2, new Kind().speed(109));
        c.eq("rounded up: 66.06", coming(w, 0, 1, 0), 67);
    }

    private static void p29InTheLastMinute() {
        c.promise("29 way: ahead of the last MINUTE, or in it");
        c.eq("comes in 143998", coming(two(), 0, 1, 143938), 143998);
        c.eq("comes in 143999", coming(two(), 0, 1, 143939), 143999);
        c.eq("comes in 144000", coming(two(), 0, 1, 143940), NONE);
        c.eq("goes in 143999", coming(two(), 0, 1, 143999), NONE);
        HullLine x = row(3, new Kind());
        c.eq("two legs, comes in 143999", coming(x, 0, 2, 143879), 143999);
        c.eq("two legs, comes in 144000", coming(x, 0, 2, 143880), NONE);
        HullLine y = two();
        y.swell(0, 0, 7);
        y.swell(0, 2398, 6);
        c.eq("the last but one full hour", coming(y, 0, 1, 143000), 143940);
        HullLine z = row(2, new Kind().speed(200));
        z.swell(0, 0, 7);
        z.swell(0, 2399, 6);
        c.eq("the last full hour", coming(z, 0, 1, 143000), 143976);
        HullLine w = two();
        w.swell(0, 0, 7);
        w.swell(0, 2399, 6);
        c.eq("the last full hour, too late", coming(w, 0, 1, 143000), NONE);
    }

    private static void p29FirstStartThatMayBe() {
        c.promise("29 way: the first of these; its FUEL must be enough for that one");
        HullLine x = row(2, new Kind().tank(60));
        x.wind(0, 0, -1);
        x.wind(0, 1, 0);
        c.eq("on day 0 it burns 61 of 60", coming(x, 0, 1, 1400), NONE);
        c.eq("on day 1 it burns 60 of 60", coming(x, 0, 1, 1440), 1500);
        // a start behind which it would come too late is none; a later one may be in time
        HullLine y = new HullLine();
        y.stop(1, 0, true);
        y.stop(1, 0, true);
        y.leg(0, 1, 900);
        new Kind().speed(60).burn(10).tank(3000).at(y, 0);
        y.wind(0, 98, -40);
        y.wind(0, 99, 60);
        c.eq("too late on day 98, in time on day 99", coming(y, 0, 1, 142000), 142560 + 450);
    }

    private static void p29FuelToTheGallon() {
        c.promise("29 way: its FUEL must be enough; it begins with a full TANK");
        c.eq("59 of 60", coming(row(2, new Kind().tank(59)), 0, 1, 0), NONE);
        c.eq("60 of 60", coming(row(2, new Kind().tank(60)), 0, 1, 0), 60);
        c.eq("61 of 60", coming(row(2, new Kind().tank(61)), 0, 1, 0), 60);
        // 60 minutes at 59 an hour, and at 61 an hour
        c.eq("59 of 59", coming(row(2, new Kind().burn(59).tank(59)), 0, 1, 0), 60);
        c.eq("60 of 61", coming(row(2, new Kind().burn(61).tank(60)), 0, 1, 0), NONE);
        c.eq("61 of 61", coming(row(2, new Kind().burn(61).tank(61)), 0, 1, 0), 60);
        HullLine x = row(2, new Kind().tank(60));
        c.eq("no drums, no fuel", x.of(0, 2) + x.count(8), 0);
        c.eq("a full tank all the same", coming(x, 0, 1, 0), 60);
        c.eq("and where the boat is not", coming(x, 1, 0, 0), 60);
    }

    private static void p29FullTankAgain() {
        c.promise("29 way: a full TANK again, if there are DRUMS");
        c.eq("no drums, 119 for 120", coming(row(3, new Kind().tank(119)), 0, 2, 0), NONE);
        c.eq("no drums, 120 for 120", coming(row(3, new Kind().tank(120)), 0, 2, 0), 120);
        HullLine x = row(3, new Kind().tank(60));
        c.eq("no drums", coming(x, 0, 2, 0), NONE);
        x.drums(0, 9);
        x.drums(2, 9);
        c.eq("drums at the first and at the last", coming(x, 0, 2, 0), NONE);
        x.drums(1, 1);
        c.eq("a drum between", coming(x, 0, 2, 0), 120);
        HullLine y = row(6, new Kind().tank(120));
        c.eq("five legs, no drums", coming(y, 0, 5, 0), NONE);
        y.drums(2, 1);
        c.eq("a drum at 2: 4 legs", coming(y, 0, 4, 0), 240);
        c.eq("a drum at 2: not 5", coming(y, 0, 5, 0), NONE);
        y.drums(3, 1);
        c.eq("drums at 2 and 3", coming(y, 0, 5, 0), 300);
    }

    private static void p29FuelLegByLeg() {
        c.promise("29 way: FUEL that MINUTES burn, rounded up for each LEG");
        // 61 minutes at 61 an hour burn 63 (62.02), twice 126; 122 minutes at once would burn 125
        for (int tank = 125; tank <= 126; tank++) {
            HullLine x = new HullLine();
            for (int i = 0; i < 3; i++) {
                x.stop(1, 0, true);
            }
            x.leg(0, 1, 122);
            x.leg(1, 2, 122);
            new Kind().burn(61).tank(tank).at(x, 0);
            c.eq("a tank of " + tank, coming(x, 0, 2, 0), tank < 126 ? NONE : 122);
        }
    }

    private static void p29DrumsAsNow() {
        c.promise("29 way: DRUMS (as now)");
        HullLine x = row(3, new Kind().tank(60));
        new Kind().at(x, 1);
        x.drums(1, 2);
        c.eq("2 drums", coming(x, 0, 2, 0), 120);
        x.fuel(1, 1);
        c.eq("1 drum", coming(x, 0, 2, 0), 120);
        x.fuel(1, 1);
        c.eq("none", coming(x, 0, 2, 0), NONE);
    }

    private static void p29NoneOfTheseAreAsked() {
        c.promise("29 way: no CREWS, WEIGHTS, BUOYS, RULES are asked");
        HullLine x = new HullLine();
        x.stop(1, 9, true);
        x.stop(1, 9, true);
        x.leg(0, 1, 900);
        new Kind().empty(40000).lift(1000).speed(60).at(x, 0);
        new Kind().at(x, 1);
        x.rest(0);
        x.breaks(0, true);
        Check.rules(x, "lift if day=9;land if day=9;");
        c.eq("900 minutes, too heavy, broken, resting, barred, no buoy", coming(x, 0, 1, 0), 900);
        HullLine y = new HullLine();
        Bounds.busy(y);
        c.eq("of one that waits", y.way(Bounds.WAITS, 2, 0, 600, 0, 0), 630);
        c.eq("of one in the air", y.way(Bounds.FLIES, 2, 0, 600, 0, 0), 630);
        c.eq("of one that is sunk", y.way(Bounds.SANK, 2, 0, 600, 0, 0), 630);
        c.eq("of one that rests", y.way(Bounds.RESTS, 2, 0, 600, 0, 0), 630);
    }

    private static void p29AsKnown() {
        c.promise("29 way: AS KNOWN by n");
        HullLine x = two();
        x.wind(0, 0, 60);
        x.swell(0, 0, 7);
        x.swell(0, 2, 6);
        x.wind(0, 0, -60);
        int[] due = {61 + 60, 61 + 40, NONE, 120 + 40, 120 + 120};
        for (int n = 0; n <= 4; n++) {
            c.eq("by " + n, x.way(0, 0, 1, 61, n, 0), due[n]);
        }
        c.eq("by 5", x.way(0, 0, 1, 61, 5, 0), NONE);
    }

    private static void p29EarliestComing() {
        c.promise("29 way: BEST: the earliest coming");
        HullLine x = new HullLine();
        x.stop(1, 0, true);
        x.stop(1, 0, true);
        x.stop(1, 0, true);
        new Kind().at(x, 0);
        x.leg(0, 2, 242);
        x.leg(0, 1, 120);
        x.leg(1, 2, 120);
        c.eq("two legs, a minute earlier", coming(x, 0, 2, 0), 120);
        c.eq("two legs", x.way(0, 0, 2, 0, 0, 1), 2);
        c.eq("the first", x.way(0, 0, 2, 0, 0, 10), 1);
        c.eq("the second", x.way(0, 0, 2, 0, 0, 11), 2);
        x.leg(0, 2, 238);
        c.eq("one leg, a minute earlier", coming(x, 0, 2, 0), 119);
        c.eq("one leg", x.way(0, 0, 2, 0, 0, 1), 1);
        c.eq("that one", x.way(0, 0, 2, 0, 0, 10), 3);
        c.eq("no second", x.way(0, 0, 2, 0, 0, 11), NONE);
    }

    private static void p29OfSeveralTheFirst() {
        c.promise("29 way: of several the first, LEG by LEG the lesser number");
        HullLine x = new HullLine();
        for (int i = 0; i < 4; i++) {
            x.stop(1, 0, true);
        }
        new Kind().at(x, 0);
        x.leg(1, 3, 120);
        x.leg(2, 3, 120);
        x.leg(0, 2, 120);
        x.leg(0, 1, 120);
        c.eq("by stop 2, whose leg is the lesser", x.way(0, 0, 3, 0, 0, 10), 2);
        c.eq("then leg 1", x.way(0, 0, 3, 0, 0, 11), 1);
        x.leg(0, 3, 240);
        c.eq("one leg of a greater number", x.way(0, 0, 3, 0, 0, 10), 2);
        c.eq("two legs", x.way(0, 0, 3, 0, 0, 1), 2);
        HullLine y = new HullLine();
        for (int i = 0; i < 3; i++) {
            y.stop(1, 0, true);
        }
        new Kind().at(y, 0);
        y.leg(0, 2, 240);
        y.leg(0, 1, 120);
        y.leg(1, 2, 120);
        y.leg(2, 1, 120);
        c.eq("one leg of a lesser number", y.way(0, 0, 2, 0, 0, 1), 1);
        c.eq("its leg", y.way(0, 0, 2, 0, 0, 10), 0);
        c.eq("of two legs alike the lesser, as the second", y.way(0, 1, 2, 0, 0, 10), 2);
        HullLine z = Bounds.line(2);
        new Kind().at(z, 0);
        for (int i = 0; i < 30; i++) {
            z.leg(i % 2, 1 - i % 2, 100);
        }
        c.eq("of thirty alike the first", z.way(0, 0, 1, 0, 0, 10), 0);
        c.eq("back, too", z.way(0, 1, 0, 0, 0, 10), 0);
    }

    /** Legs of lesser numbers that lead elsewhere, or that it can't go, stand ahead of the one that serves. */
    private static void p29PastLegsThatDoNotServe() {
        c.promise("29 way: LEGS that do not serve are passed by");
        HullLine x = new HullLine();
        for (int i = 0; i < 8; i++) {
            x.stop(1, 0, true);
        }
        new Kind().at(x, 0);
        x.leg(4, 6, 20);
        x.leg(4, 7, 20);
        for (int i = 0; i < 5; i++) {
            x.leg(i, i + 1, 120);
        }
        c.eq("past legs that lead elsewhere, as the fifth", coming(x, 0, 5, 0), 300);
        HullLine y = new HullLine();
        for (int i = 0; i < 4; i++) {
            y.stop(1, 0, i > 0);
        }
        new Kind().tank(150).at(y, 0);
        y.leg(0, 2, 302);
        y.leg(0, 1, 120);
        y.leg(3, 1, 20);
        y.leg(1, 2, 160);
        c.eq("past a leg that burns too much", coming(y, 0, 2, 0), 140);
        c.eq("two legs", y.way(0, 0, 2, 0, 0, 1), 2);
        HullLine z = new HullLine();
        z.stop(1, 0, true);
        z.stop(1, 0, false);
        z.stop(1, 0, true);
        new Kind().at(z, 0);
        z.leg(0, 1, 900);
        z.leg(0, 2, 120);
        z.swell(1, 0, 9);
        c.eq("past a leg behind which it never goes on", coming(z, 0, 2, 143000), 143060);
    }

    /** 30 legs between six stops; the way's last leg is the last of all. */
    private static void p29ManyLegs() {
        c.promise("29 way: of 30 LEGS");
        HullLine x = new HullLine();
        for (int i = 0; i < 6; i++) {
            x.stop(1, 0, true);
        }
        new Kind().at(x, 0);
        for (int i = 0; i < 30; i++) {
            int from = i / 6;
            x.leg(from, from + 1, i % 6 == 5 ? 120 : 240);
        }
        c.eq("coming", x.way(0, 0, 5, 0, 0, 0), 300);
        for (int k = 0; k < 5; k++) {
            c.eq("leg " + k, x.way(0, 0, 5, 0, 0, 10 + k), 6 * k + 5);
        }
    }

    private static void p29AsksAlone() {
        c.promise("29 way: it asks alone");
        b.nothing("a way", Bounds::busy, x -> x.way(0, 2, 0, 600, 0, 0), 630);
        b.nothing("no such boat", Bounds::busy, x -> x.way(5, 2, 0, 600, 0, 0), NONE);
        b.nothing("no such n", Bounds::busy, x -> x.way(0, 2, 0, 600, 5, 0), NONE);
        b.nothing("no such what", Bounds::busy, x -> x.way(0, 2, 0, 600, 0, 15), NONE);
    }
}
