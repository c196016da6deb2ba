import java.util.Arrays;
import java.util.List;

/** Promises 10 to 13 at the boundaries that the document names. */
public final class BoundsRulesTest {
    private static final Check c = new Check("BoundsRulesTest");
    private static final Bounds b = new Bounds(c);
    private static final int NONE = HullLine.NONE;
    private static final String LINE = "lift if day=0;";
    private static final List<String> WORDS = Arrays.asList("swell", "hour", "light", "free", "fuel", "weight", "day", "bags");
    private static final List<String> TOKENS = Arrays.asList("lift", "land", "at", "if", "not", "and", "swell", "hour", "light",
        "free", "fuel", "weight", "day", "bags", "5", "00000", "<", "=", ">", ";", "x", "#", "123456");

    public static void main(String[] args) {
        p10HighestByteFirst();
        p10NoMoreThan300();
        p10NothingHappens();
        p11FirstBytesAlone();
        p11NotSoMany();
        p11NothingHappens();
        p12EmptyText();
        p12EachByte();
        p12EachToken();
        p12WordsWhole();
        p12NumbersOfOneToFiveDigits();
        p12BlanksBetweenOrNot();
        p12SixteenLines();
        p12SixTerms();
        p12AtElevenAtMost();
        p12FirstAlongTheText();
        p12TheEnd();
        p12FullTape();
        p12TapeIsEmptyThen();
        p12InPlaceOfWhatWas();
        p12NothingElseChanges();
        p13NoSuchBoat();
        p13NotMoored();
        p13FirstLine();
        p13LinesOfOneStop();
        p13SignsAndNot();
        p13WordsAtTheirEnds();
        p13AllTermsMustBeSo();
        p13AsksAlone();
        c.finish();
    }

    private static void fault(String text, int kind, int place) {
        c.eq("'" + text + "'", Bounds.rulesOf(text), -1 - kind - 10 * place);
    }

    private static void lines(String text, int due) {
        c.eq("'" + text + "'", Bounds.rulesOf(text), due);
    }

    // ---- 10

    private static void p10HighestByteFirst() {
        c.promise("10 feed: of each number the highest first");
        HullLine x = new HullLine();
        c.eq("20 bytes", x.feed(0x6c696674, 0x20696620, 0x6461793d, 0x303b0a0a, 0x20202023), 20);
        c.eq("the last byte is the lowest of the fifth number", x.rules(), -1 - 1 - 190);
        int[] one = {0x20202020, 0x20202020, 0x20202020, 0x20202020, 0x20202020};
        for (int i = 0; i < 20; i++) {
            int[] v = one.clone();
            v[i / 4] ^= 0x03 << 24 - 8 * (i % 4);
            HullLine y = new HullLine();
            y.feed(v[0], v[1], v[2], v[3], v[4]);
            c.eq("byte " + i, y.rules(), -1 - 1 - 10 * i);
        }
        HullLine z = new HullLine();
        z.feed(one[0], one[1], one[2], one[3], one[4]);
        z.feed(one[0], one[1], one[2], one[3], 0x20202120);
        c.eq("behind the tape", z.rules(), -1 - 1 - 380);
    }

    private static HullLine tape(int bytes) {
        HullLine x = new HullLine();
        for (int i = 0; i < bytes; i += 20) {
            x.feed(0x20202020, 0x20202020, 0x20202020, 0x20202020, 0x20202020);
        }
        x.end(bytes);
        return x;
    }

    private static void p10NoMoreThan300() {
        c.promise("10 feed: NONE if it would have more than 300");
        for (int n = 0; n <= 300; n++) {
            c.eq("20 behind " + n, tape(n).feed(0, 0, 0, 0, 0), n <= 280 ? n + 20 : NONE);
        }
        HullLine x = new HullLine();
        for (int i = 1; i <= 15; i++) {
            c.eq("feed " + i, x.feed(0, 0, 0, 0, 0), 20 * i);
        }
        c.eq("feed 16", x.feed(0, 0, 0, 0, 0), NONE);
        c.eq("bytes", x.count(12), 300);
    }

    private static void p10NothingHappens() {
        c.promise("10 feed: NONE, and none come");
        b.nothing("behind 300", x -> {
            Bounds.busy(x);
            x.end(0);
            Check.write(x, LINE + Bounds.times(" ", 286));
        }, x -> x.feed(0x23232323, 0x23232323, 0x23232323, 0x23232323, 0x23232323), NONE);
        b.nothing("behind 281", x -> {
            Bounds.busy(x);
            x.end(0);
            Check.write(x, LINE + Bounds.times(" ", 267));
        }, x -> x.feed(0x23232323, 0x23232323, 0x23232323, 0x23232323, 0x23232323), NONE);
    }

    // ---- 11

    private static void p11FirstBytesAlone() {
        c.promise("11 end: the first n bytes alone");
        String text = LINE + LINE;
        for (int n = 0; n <= text.length(); n++) {
            HullLine x = new HullLine();
            Check.write(x, text);
            c.eq("end(" + n + ")", x.end(n), n);
            c.eq("bytes", x.count(12), n);
            c.eq("rules of " + n, x.rules(), Bounds.rulesOf(text.substring(0, n)));
        }
        HullLine y = new HullLine();
        Check.write(y, LINE + "###");
        y.end(14);
        Check.write(y, LINE);
        c.eq("what comes then is behind these", y.rules(), 2);
    }

    private static void p11NotSoMany() {
        c.promise("11 end: NONE, if it has not so many, or n is below 0");
        for (int bytes = 0; bytes <= 300; bytes += 50) {
            int has = bytes;
            c.eq("0 of " + has, tape(has).end(0), 0);
            c.eq(has + " of " + has, tape(has).end(has), has);
            b.outside("n of " + has, 0, has, NONE, v -> tape(has).end(v));
        }
        HullLine x = tape(40);
        x.end(20);
        c.eq("21 of 20, which were 40", x.end(21), NONE);
        c.eq("40 of 20, which were 40", x.end(40), NONE);
        c.eq("20 of 20", x.end(20), 20);
    }

    private static void p11NothingHappens() {
        c.promise("11 end: NONE, and nothing happens");
        b.nothing("15 of 14", Bounds::busy, x -> x.end(15), NONE);
        b.nothing("-1 of 14", Bounds::busy, x -> x.end(-1), NONE);
        b.nothing("300 of 14", Bounds::busy, x -> x.end(300), NONE);
    }

    // ---- 12

    private static void p12EmptyText() {
        c.promise("12 rules: an empty text");
        lines("", 0);
        lines(" ", 0);
        lines("\n", 0);
        lines(" \n \n", 0);
        HullLine x = Bounds.pairAnd(new Kind());
        Check.rules(x, "lift if day=9;");
        c.eq("barred", x.barred(0, false), 0);
        c.eq("no lines", x.rules(), 0);
        c.eq("barred no more", x.barred(0, false), NONE);
        c.eq("lines", x.count(13), 0);
    }

    /** Behind a number each of the 256 bytes is a blank, a digit more, or what can't stand there. */
    private static void p12EachByte() {
        c.promise("12 rules: blanks are 32 and 10; what is no TOKEN");
        for (int v = 0; v < 256; v++) {
            char sign = (char) v;
            boolean taken = v == 32 || v == 10 || v >= '0' && v <= '9';
            int due = taken ? 1 : v == ';' ? -1 - 1 - 140 : -1 - 1 - 130;
            c.eq("byte " + v + " behind a number", Bounds.rulesOf("lift if day=0" + sign + ";"), due);
            boolean blank = v == 32 || v == 10;
            c.eq("byte " + v + " behind all", Bounds.rulesOf(LINE + sign), blank ? 1 : -1 - 1 - 140);
            c.eq("byte " + v + " first", Bounds.rulesOf(sign + LINE), blank ? 1 : -1 - 1);
            // a letter, a digit and a blank leave the word or a number behind it; all others end the word lift
            boolean letter = v >= 'a' && v <= 'z';
            c.eq("byte " + v + " behind a word", Bounds.rulesOf("lift" + sign + " if day=0;"),
                blank ? 1 : letter ? -1 - 1 : -1 - 1 - 40);
        }
    }

    /** At each place of a line, each token: those that may stand there make a sound text with what follows. */
    private static void p12EachToken() {
        c.promise("12 rules: what can't stand there");
        place("", 0, "lift", " if day=0;", "land", " if day=0;");
        place("lift ", NONE, "at", " 5 if day=0;", "if", " day=0;");
        place("land ", NONE, "at", " 5 if day=0;", "if", " day=0;");
        place("lift at ", NONE, "5", " if day=0;", "00000", " if day=0;");
        place("lift at 5 ", NONE, "if", " day=0;");
        place("lift if ", NONE, "not", " day=0;", "WORD", "=0;");
        place("lift if not ", NONE, "WORD", "=0;");
        place("lift if day ", NONE, "<", "0;", "=", "0;", ">", "0;");
        place("lift if not day ", NONE, "<", "0;", "=", "0;", ">", "0;");
        place("lift if day< ", NONE, "5", ";", "00000", ";");
        place("lift if day=0 ", NONE, "and", " day=0;", ";", "");
        place("lift if day=0 and ", NONE, "not", " day=0;", "WORD", "=0;");
        place("lift if day=0 and not ", NONE, "WORD", "=0;");
        place("lift if day=0 and bags ", NONE, "<", "0;", "=", "0;", ">", "0;");
        place("lift if day=0 and bags> ", NONE, "5", ";", "00000", ";");
        place("lift if day=0; ", 1, "lift", " if day=0;", "land", " if day=0;");
    }

    /** What may stand there goes by twos: a token, and what makes the text sound behind it. */
    private static void place(String before, int endDue, String... sound) {
        for (String token : TOKENS) {
            String rest = null;
            for (int i = 0; i < sound.length; i += 2) {
                if (sound[i].equals(token) || sound[i].equals("WORD") && WORDS.contains(token)) {
                    rest = sound[i + 1];
                }
            }
            if (rest == null) {
                fault(before + token, 1, before.length());
                fault(before + token + " " + LINE, 1, before.length());
            } else {
                lines(before + token + rest, before.contains(";") ? 2 : 1);
            }
        }
        if (endDue == NONE) {
            fault(before, 1, before.length());
        } else {
            lines(before, endDue);
        }
    }

    private static void p12WordsWhole() {
        c.promise("12 rules: words, as many letters as stand together");
        for (String word : WORDS) {
            fault("lift if " + word.substring(1) + "=0;", 1, 8);
            fault("lift if " + word.substring(0, word.length() - 1) + "=0;", 1, 8);
            fault("lift if " + word + "s=0;", 1, 8);
            fault("lift if " + word + word + "=0;", 1, 8);
            fault("lift if not" + word + "=0;", 1, 8);
            fault("lift if " + word.toUpperCase() + "=0;", 1, 8);
            lines("lift if " + word + "=0;", 1);
        }
        fault("lif if day=0;", 1, 0);
        fault("lan if day=0;", 1, 0);
        fault("liftland if day=0;", 1, 0);
        fault("lift i day=0;", 1, 5);
        fault("lift iff day=0;", 1, 5);
        fault("lift a 5 if day=0;", 1, 5);
        fault("lift att 5 if day=0;", 1, 5);
        fault("lift if no day=0;", 1, 8);
        fault("lift if nott day=0;", 1, 8);
        fault("lift if day=0 an day=0;", 1, 14);
        fault("lift if day=0 andd day=0;", 1, 14);
    }

    private static void p12NumbersOfOneToFiveDigits() {
        c.promise("12 rules: NUMBERS, 1 to 5 digits");
        String[] sound = {"0", "9", "10", "99", "999", "9999", "99999", "00000", "00009"};
        for (String number : sound) {
            lines("lift if weight<" + number + ";", 1);
            fault("lift if weight<0" + Bounds.times("0", 5 - number.length()) + number + ";", 1, 15);
        }
        fault("lift if weight<100000;", 1, 15);
        fault("lift if weight<;", 1, 15);
        fault("lift if weight<" + Bounds.times("1", 200) + ";", 1, 15);
        fault("lift if weight<4294967297;", 1, 15);
        fault("lift if weight<12345 6;", 1, 21);
        HullLine x = Bounds.pairAnd(new Kind().empty(40000).lift(90000).tank(3000));
        c.eq("fuel", x.of(0, 2), 3000);
        int[][] due = {{57999, 0}, {58000, 0}, {58001, -1}, {99999, -1}, {0, 0}};
        for (int[] d : due) {
            Check.rules(x, "lift if weight<" + d[0] + ";");
            c.eq("58000 < " + d[0], x.barred(0, false), d[1]);
        }
        Check.rules(x, "lift if fuel=03000;");
        c.eq("03000 is 3000", x.barred(0, false), NONE);
    }

    private static void p12BlanksBetweenOrNot() {
        c.promise("12 rules: blanks between or not");
        lines("lift at 5if day=0and day<1;land at 6if not day>0;", 2);
        lines("lift\nat\n5\nif\nday\n=\n0\nand\nday\n<\n1\n;\n", 1);
        lines("  lift  at  5  if  day  =  0  and  day  <  1  ;  ", 1);
        lines("lift at5if day=0;", 1);
        fault("lift at 5 ifday=0;", 1, 10);
        fault("lift if da y=0;", 1, 8);
        fault("lift if day=0 0;", 1, 14);
    }

    private static void p12SixteenLines() {
        c.promise("12 rules: 2 the first word of a 17th LINE");
        String line = "land if day=0;";
        for (int n = 1; n <= 16; n++) {
            lines(Bounds.times(line, n), n);
        }
        String sixteen = Bounds.times(line, 16);
        fault(sixteen + "lift", 2, 224);
        fault(sixteen + "land", 2, 224);
        fault(sixteen + "land if day=0;", 2, 224);
        fault(sixteen + "\n\n land if day=0;", 2, 227);
        fault(sixteen + "lift at 12 if x", 2, 224);
        fault(sixteen + Bounds.times(line, 2), 2, 224);
        lines(sixteen + "  \n", 16);
        // of one place the least: what can't stand there
        fault(sixteen + "if", 1, 224);
        fault(sixteen + "lifts", 1, 224);
        fault(sixteen + "; land", 1, 224);
        fault(sixteen + "#", 1, 224);
        fault(sixteen + "7", 1, 224);
    }

    private static void p12SixTerms() {
        c.promise("12 rules: 3 the not or WORD of a 7th TERM");
        String term = "day=0 and ";
        for (int n = 1; n <= 6; n++) {
            lines("lift if " + Bounds.times(term, n - 1) + "not day=1;", 1);
        }
        String six = "lift if " + Bounds.times(term, 6);
        fault(six + "day=0;", 3, 68);
        fault(six + "not day=0;", 3, 68);
        fault(six + "  bags=0;", 3, 70);
        fault(six + "not", 3, 68);
        fault(six + "not not", 3, 68);
        fault(six + "day;", 3, 68);
        // of one place the least: what can't stand there
        fault(six + "and", 1, 68);
        fault(six + "days=0;", 1, 68);
        fault(six + ";", 1, 68);
        fault(six + "0", 1, 68);
        fault(six + "#", 1, 68);
        fault(six, 1, 68);
        lines("lift if " + Bounds.times(term, 5) + "day=0;land if " + Bounds.times(term, 5) + "day=0;", 2);
        fault("lift if " + Bounds.times(term, 5) + "day=0;land if " + Bounds.times(term, 6) + "day=0;", 3, 64 + 68);
    }

    private static void p12AtElevenAtMost() {
        c.promise("12 rules: 4 a NUMBER behind at that is above 11");
        for (int n = 0; n <= 11; n++) {
            lines("lift at " + n + " if day=0;", 1);
        }
        lines("lift at 00011 if day=0;", 1);
        fault("lift at 12 if day=0;", 4, 8);
        fault("land at 13", 4, 8);
        fault("lift at 00012 if day=0;", 4, 8);
        fault("lift at 99999 if day=0;", 4, 8);
        fault("lift at   12#", 4, 10);
        fault("lift at 100000 if day=0;", 1, 8);
        lines("lift if day=12 and weight>99999;", 1);
        fault(LINE + "land at 12 if day=0;", 4, 22);
    }

    private static void p12FirstAlongTheText() {
        c.promise("12 rules: the first along the text");
        fault("lift at 12 fi", 4, 8);
        fault("lift fi at 12", 1, 5);
        fault("lift at 12 if " + Bounds.times("day=0 and ", 6) + "day=0;", 4, 8);
        fault("lift at 11 if " + Bounds.times("day=0 and ", 6) + "day=0;land at 12", 3, 74);
        fault("lift if day=0; lift at 12 if day=0; #", 4, 23);
        fault("lift if # at 12", 1, 8);
        fault(Bounds.times(LINE, 15) + "lift at 12 if day=0;lift", 4, 218);
        fault(Bounds.times(LINE, 16) + "lift at 12", 2, 224);
    }

    private static void p12TheEnd() {
        c.promise("12 rules: the end: the text's length");
        String whole = "lift at 5 if not day < 7 and bags = 0 ;";
        for (int n = 1; n < whole.length(); n++) {
            int due = Bounds.rulesOf(whole.substring(0, n));
            boolean cutWord = whole.charAt(n - 1) >= 'a' && whole.charAt(n) >= 'a';
            if (!cutWord) {
                c.eq("'" + whole.substring(0, n) + "'", due, -1 - 1 - 10 * n);
            }
        }
        fault("lift\n\n\n", 1, 7);
        fault("lift if day=0     ", 1, 18);
        fault("lift if day=0; land ", 1, 20);
    }

    private static void p12FullTape() {
        c.promise("12 rules: a text of 300 bytes");
        lines(Bounds.times(" ", 300), 0);
        lines(LINE + Bounds.times(" ", 286), 1);
        lines(Bounds.times(" ", 286) + LINE, 1);
        fault(Bounds.times(" ", 287) + "lift if day=0", 1, 300);
        fault(Bounds.times(" ", 299) + "#", 1, 299);
        fault(Bounds.times(" ", 299) + "l", 1, 299);
        fault(Bounds.times(" ", 296) + "lift", 1, 300);
        fault(Bounds.times("l", 300), 1, 0);
        fault(Bounds.times("1", 300), 1, 0);
        HullLine x = new HullLine();
        Check.write(x, Bounds.times("x", 300));
        x.end(0);
        Check.write(x, "lift");
        c.eq("bytes behind the end are no part of it", x.rules(), -1 - 1 - 40);
    }

    private static void p12TapeIsEmptyThen() {
        c.promise("12 rules: the TAPE, empty then");
        String[] texts = {LINE, "", "  ", "fly", "lift at 12", Bounds.times(LINE, 17),
            "lift if " + Bounds.times("day=0 and ", 6) + "day=0;", Bounds.times(" ", 300)};
        for (String text : texts) {
            HullLine x = new HullLine();
            Check.rules(x, text);
            c.eq("bytes behind '" + text + "'", x.count(12), 0);
            c.eq("end(1)", x.end(1), NONE);
            c.eq("feed", x.feed(0x20202020, 0x20202020, 0x20202020, 0x20202020, 0x20202020), 20);
            c.eq("what was is gone", x.rules(), 0);
        }
    }

    private static void p12InPlaceOfWhatWas() {
        c.promise("12 rules: in place of what was");
        HullLine x = Bounds.pairAnd(new Kind());
        String[] texts = {"lift if day=9;", "land if day=9;", "lift if day=0;lift if day=9;", "lift at 1 if day=9;", "",
            "lift if day=0 and day=0 and day=9;", "lift if day=0;", "lift at 0 if day=9;", "lift if not day=9;"};
        int[] lift = {0, -1, 1, -1, -1, 0, -1, 0, -1};
        int[] land = {-1, 0, -1, -1, -1, -1, -1, -1, -1};
        int[] lines = {1, 1, 2, 1, 0, 1, 1, 1, 1};
        for (int i = 0; i < texts.length; i++) {
            c.eq("'" + texts[i] + "'", Check.rules(x, texts[i]), lines[i]);
            c.eq("'" + texts[i] + "', lines", x.count(13), lines[i]);
            c.eq("'" + texts[i] + "', lifting", x.barred(0, false), lift[i]);
            c.eq("'" + texts[i] + "', landing", x.barred(0, true), land[i]);
        }
    }

    private static void p12NothingElseChanges() {
        c.promise("12 rules: with a FAULT nothing else changes");
        String[] faulty = {"fly", "lift if day=9; land", "land at 12", "lift if day=9;" + Bounds.times(LINE, 16),
            "lift if " + Bounds.times("day=9 and ", 6) + "day=9;", "#"};
        for (String text : faulty) {
            b.nothing("'" + text + "'", x -> {
                Bounds.busy(x);
                x.end(0);
            }, x -> Bounds.bit(Check.rules(x, text) < 0), 1);
        }
        HullLine x = Bounds.pairAnd(new Kind());
        Check.rules(x, "lift if day=0;lift if day=1;land if day=2;");
        for (String text : faulty) {
            Check.rules(x, text);
            c.eq("lines behind '" + text + "'", x.count(13), 3);
            c.eq("lifting behind '" + text + "'", x.barred(0, false), 1);
            c.eq("landing behind '" + text + "'", x.barred(0, true), 2);
        }
        HullLine y = Bounds.pairAnd(new Kind());
        Check.rules(y, "lift if day=9;#");
        c.eq("no rules, and none behind a fault", y.barred(0, false), NONE);
    }

    // ---- 13

    private static void p13NoSuchBoat() {
        c.promise("13 barred: -2: no such BOAT");
        b.range("boat", 0, 0, NONE, -2, v -> Bounds.pairAnd(new Kind()).barred(v, false));
        b.range("boat, landing", 0, 0, NONE, -2, v -> Bounds.pairAnd(new Kind()).barred(v, true));
        b.range("boat of six", 0, 5, NONE, -2, v -> {
            HullLine x = Bounds.line(6);
            for (int i = 0; i < 6; i++) {
                new Kind().at(x, i);
            }
            return x.barred(v, false);
        });
    }

    private static void p13NotMoored() {
        c.promise("13 barred: -2: it is not MOORED");
        HullLine x = new HullLine();
        Bounds.busy(x);
        c.eq("in the air", x.barred(Bounds.FLIES, false), -2);
        c.eq("in the air, landing", x.barred(Bounds.FLIES, true), -2);
        c.eq("sunk", x.barred(Bounds.SANK, false), -2);
        c.eq("sunk, landing", x.barred(Bounds.SANK, true), -2);
        c.eq("resting, broken", x.barred(Bounds.RESTS, false), NONE);
        HullLine y = Bounds.pairAnd(new Kind());
        y.lift(0, 0);
        c.eq("lifted", y.barred(0, false), -2);
        y.go(60);
        c.eq("landed", y.barred(0, false), NONE);
    }

    private static void p13FirstLine() {
        c.promise("13 barred: the first LINE that is not so");
        for (int first = 0; first < 16; first++) {
            String text = Bounds.times("lift if day<1;", first) + Bounds.times("lift if day>0;", 16 - first);
            HullLine x = Bounds.pairAnd(new Kind());
            c.eq("lines", Check.rules(x, text), 16);
            c.eq("line " + first, x.barred(0, false), first);
            c.eq("landing", x.barred(0, true), NONE);
        }
        HullLine y = Bounds.pairAnd(new Kind());
        Check.rules(y, Bounds.times("lift if day=9;", 8) + Bounds.times("land if day=9;", 8));
        c.eq("lines of landing are numbered with the others", y.barred(0, true), 8);
        c.eq("lifting", y.barred(0, false), 0);
    }

    private static void p13LinesOfOneStop() {
        c.promise("13 barred: at: it is a LINE of that STOP alone");
        for (int stop = 0; stop < 12; stop++) {
            HullLine x = Bounds.line(12);
            new Kind().at(x, stop);
            for (int at = 0; at < 12; at++) {
                Check.rules(x, "lift at " + at + " if day=9;land at " + at + " if day=9;");
                c.eq("at " + at + ", lifting from " + stop, x.barred(0, false), at == stop ? 0 : NONE);
                c.eq("at " + at + ", landing at " + stop, x.barred(0, true), at == stop ? 1 : NONE);
            }
        }
    }

    private static void sign(HullLine x, String word, int v) {
        String[] signs = {"<", "=", ">"};
        for (int k = -1; k <= 1; k++) {
            if (v + k < 0) {
                continue;
            }
            boolean[] so = {v < v + k, k == 0, v > v + k};
            for (int i = 0; i < 3; i++) {
                String term = word + signs[i] + (v + k);
                Check.rules(x, "lift if " + term + ";land if not " + term + ";");
                c.eq("lift if " + term, x.barred(0, false), so[i] ? NONE : 0);
                c.eq("land if not " + term, x.barred(0, true), so[i] ? 1 : NONE);
            }
        }
    }

    private static void p13SignsAndNot() {
        c.promise("13 barred: < = > and not");
        HullLine x = Bounds.line(1);
        new Kind().empty(5000).at(x, 0);
        sign(x, "weight", 5000);
        sign(x, "free", 3);
        sign(x, "swell", 3);
        sign(x, "light", 1);
    }

    private static void p13WordsAtTheirEnds() {
        c.promise("13 barred: WORDS at their ends");
        HullLine x = new HullLine();
        x.stop(1, 0, false);
        x.stop(1, 0, true);
        x.drums(0, 99);
        new Kind().empty(40000).tank(3000).hold(20000).at(x, 0);
        sign(x, "free", 0);
        sign(x, "light", 0);
        sign(x, "fuel", 0);
        sign(x, "hour", 0);
        sign(x, "day", 0);
        sign(x, "bags", 0);
        x = new HullLine();
        x.stop(4, 0, true);
        x.stop(1, 0, true);
        x.drums(0, 99);
        new Kind().empty(40000).tank(3000).hold(20000).at(x, 0);
        x.fuel(0, 60);
        for (int i = 0; i < 30; i++) {
            x.bag(0, 1, i < 2 ? 301 : 693 - i % 2, 0);
            x.load(i, 0);
        }
        int pounds = 2 * 301 + 14 * 693 + 14 * 692;
        sign(x, "bags", 30);
        sign(x, "fuel", 3000);
        sign(x, "weight", 40000 + 18000 + pounds);
        x = Bounds.pairAnd(new Kind());
        x.swell(0, 2399, 9);
        Bounds.goTo(x, 143999);
        sign(x, "day", 99);
        sign(x, "hour", 23);
        sign(x, "swell", 9);
        x = Bounds.pairAnd(new Kind());
        x.go(1439);
        sign(x, "hour", 23);
        sign(x, "day", 0);
        x.go(1);
        sign(x, "hour", 0);
        sign(x, "day", 1);
    }

    private static void p13AllTermsMustBeSo() {
        c.promise("13 barred: TERM {and TERM}");
        for (int wrong = 0; wrong < 6; wrong++) {
            StringBuilder text = new StringBuilder("lift if ");
            for (int i = 0; i < 6; i++) {
                text.append(i > 0 ? " and " : "").append(i == wrong ? "day=9" : "day=0");
            }
            HullLine x = Bounds.pairAnd(new Kind());
            Check.rules(x, text + ";");
            c.eq("term " + wrong + " is not so", x.barred(0, false), 0);
        }
        HullLine y = Bounds.pairAnd(new Kind());
        Check.rules(y, "lift if " + Bounds.times("day=0 and ", 5) + "day=0;");
        c.eq("all are so", y.barred(0, false), NONE);
    }

    private static void p13AsksAlone() {
        c.promise("13 barred: it asks alone");
        b.nothing("a boat that is barred", x -> {
            Bounds.busy(x);
            x.end(0);
            Check.rules(x, "lift if day=9;");
        }, x -> x.barred(Bounds.WAITS, false), 0);
        b.nothing("no such boat", Bounds::busy, x -> x.barred(5, false), -2);
        b.nothing("in the air", Bounds::busy, x -> x.barred(Bounds.FLIES, true), -2);
    }
}
