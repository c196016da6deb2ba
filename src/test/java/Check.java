import java.util.NoSuchElementException;

/** Counts answers that are not as due, and ends a test with exit code 1 if there was one. */
final class Check {
    private final String test;
    private String promise = "";
    private int asked;
    private int wrong;

    Check(String test) {
        this.test = test;
    }

    void promise(String name) {
        promise = name;
    }

    void eq(String what, long got, long due) {
        asked++;
        if (got != due) {
            wrong++;
            if (wrong <= 40) {
                System.out.println(test + ", " + promise + ": " + what + " answered " + got + ", due is " + due);
            }
        }
    }

    void yes(String what, boolean got) {
        eq(what, got ? 1 : 0, 1);
    }

    void no(String what, boolean got) {
        eq(what, got ? 1 : 0, 0);
    }

    void noMail(HullLine x, int bag, int what) {
        boolean thrown = false;
        try {
            x.mail(bag, what);
        } catch (NoSuchElementException e) {
            thrown = true;
        }
        yes("mail(" + bag + ", " + what + ") throws", thrown);
    }

    void noOf(HullLine x, int boat, int what) {
        boolean thrown = false;
        try {
            x.of(boat, what);
        } catch (NoSuchElementException e) {
            thrown = true;
        }
        yes("of(" + boat + ", " + what + ") throws", thrown);
    }

    /** Puts a text on the tape, behind what is there. */
    static void write(HullLine x, String text) {
        int before = x.count(12);
        for (int at = 0; at < text.length(); at += 20) {
            x.feed(four(text, at), four(text, at + 4), four(text, at + 8), four(text, at + 12), four(text, at + 16));
        }
        x.end(before + text.length());
    }

    private static int four(String text, int at) {
        int v = 0;
        for (int i = at; i < at + 4; i++) {
            v = v << 8 | (i < text.length() ? text.charAt(i) & 255 : ' ');
        }
        return v;
    }

    static int rules(HullLine x, String text) {
        x.end(0);
        write(x, text);
        return x.rules();
    }

    void finish() {
        System.out.println(test + ": " + (asked - wrong) + " of " + asked + " answers are as due");
        if (wrong != 0 || asked == 0) {
            System.exit(1);
        }
    }
}
