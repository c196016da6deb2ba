import java.util.ArrayList;
import java.util.List;
import java.util.NoSuchElementException;
import java.util.function.IntSupplier;

/**
 * What an object answers to all that can be asked of it, and then as calls go on: what can't be asked at once
 * (bytes of the tape, ends of rests, what a lift weighed) shows there. Some 400 calls, as an object has 512.
 */
final class Answers {
    private final HullLine x;
    private final List<String> all = new ArrayList<>();
    /** What count answers, kept: each call is one of the 512. */
    private final int[] counts = new int[14];

    private Answers(HullLine x) {
        this.x = x;
    }

    static List<String> of(HullLine x) {
        Answers answers = new Answers(x);
        answers.askState();
        answers.askReckoned();
        answers.goOn();
        answers.askState();
        return answers.all;
    }

    private void ask(String call, IntSupplier answer) {
        String got;
        try {
            got = String.valueOf(answer.getAsInt());
        } catch (NoSuchElementException e) {
            got = "thrown";
        }
        all.add(call + " = " + got);
    }

    /** The first three and the last of so many. */
    private static List<Integer> some(int many) {
        List<Integer> some = new ArrayList<>();
        for (int i = 0; i < many; i++) {
            if (i < 3 || i == many - 1) {
                some.add(i);
            }
        }
        return some;
    }

    private void askState() {
        for (int i = 0; i <= 13; i++) {
            counts[i] = x.count(i);
            all.add("count(" + i + ") = " + counts[i]);
        }
        for (int i = 0; i < counts[1]; i++) {
            int stop = i;
            ask("free(" + stop + ")", () -> x.free(stop));
        }
        for (int i = 0; i < counts[3]; i++) {
            for (int k = 0; k <= 9; k++) {
                int boat = i;
                int what = k;
                ask("of(" + boat + ", " + what + ")", () -> x.of(boat, what));
            }
        }
        for (int i = 0; i < counts[5]; i += counts[5] > 8 ? 6 : 1) {
            for (int k = 0; k <= 16; k = k == 3 ? 10 : k + 1) {
                int bag = i;
                int what = k;
                ask("mail(" + bag + ", " + what + ")", () -> x.mail(bag, what));
            }
        }
        ask("suspects()", x::suspects);
    }

    private void askReckoned() {
        int now = counts[0];
        int facts = counts[4];
        for (int stop : some(counts[1])) {
            ask("swellOf(" + stop + "), now", () -> x.swellOf(stop, now / 60, facts));
            ask("swellOf(" + stop + "), in the end", () -> x.swellOf(stop, 2399, facts));
            ask("swellOf(" + stop + "), by half", () -> x.swellOf(stop, 2399, facts / 2));
        }
        for (int leg : some(counts[2])) {
            ask("windOf(" + leg + "), now", () -> x.windOf(leg, now / 1440, facts));
            ask("windOf(" + leg + "), in the end", () -> x.windOf(leg, 99, facts));
            ask("windOf(" + leg + "), by half", () -> x.windOf(leg, 99, facts / 2));
        }
        for (int i = 0; i < counts[3]; i++) {
            int boat = i;
            ask("barred(" + boat + ", false)", () -> x.barred(boat, false));
            ask("barred(" + boat + ", true)", () -> x.barred(boat, true));
            for (int leg : some(counts[2])) {
                ask("point(" + boat + ", " + leg + ")", () -> x.point(boat, leg));
            }
        }
        ask("way, its coming", () -> x.way(0, 0, 1, now, facts, 0));
        ask("way, its first leg", () -> x.way(0, 0, 1, now, facts, 10));
    }

    private void goOn() {
        for (int i = 0; i < Math.min(3, counts[6]); i++) {
            int lift = i;
            ask("run(" + lift + ")", () -> x.run(lift, 13000) ? 1 : 0);
            ask("suspects()", x::suspects);
        }
        liftAndTurn();
        ask("rules()", x::rules);
        for (int i = 0; i < counts[3]; i++) {
            int boat = i;
            ask("barred(" + boat + ", false)", () -> x.barred(boat, false));
            ask("raise(" + boat + ")", () -> x.raise(boat) ? 1 : 0);
        }
        ask("go(60)", () -> x.go(60));
    }

    private void liftAndTurn() {
        for (int i = 0; i < counts[3]; i++) {
            int boat = i;
            for (int leg : some(Math.min(3, counts[2]))) {
                ask("lift(" + boat + ", " + leg + ")", () -> x.lift(boat, leg));
            }
        }
        ask("go(20)", () -> x.go(20));
        for (int i = 0; i < counts[3]; i++) {
            int boat = i;
            ask("turn(" + boat + ")", () -> x.turn(boat));
        }
    }
}
