import java.io.IOException;
import java.nio.charset.StandardCharsets;
import java.nio.file.Files;
import java.nio.file.Path;
import java.util.ArrayList;
import java.util.List;

/**
 * What README.md shows of the class: example() has the page's lines of Java, one behind the other, with each answer kept;
 * the page and this file are compared, so that neither is changed alone.
 */
public final class ReadmeTest {
    private static final Check c = new Check("ReadmeTest");

    public static void main(String[] args) throws IOException {
        c.promise("README.md");
        List<String> page = javaOf(lines("README.md"));
        List<String> here = exampleOf(lines("src/test/java/ReadmeTest.java"));
        c.eq("lines of Java", here.size(), page.size());
        for (int i = 0; i < Math.min(page.size(), here.size()); i++) {
            c.yes("the page has '" + page.get(i) + "', the test '" + here.get(i) + "'", page.get(i).equals(here.get(i)));
        }
        example();
        answers();
        everyCallIsNamed(String.join("\n", lines("README.md")));
        c.finish();
    }

    private static List<String> lines(String path) throws IOException {
        return Files.readAllLines(Path.of(path), StandardCharsets.ISO_8859_1);
    }

    private static List<String> javaOf(List<String> all) {
        List<String> found = new ArrayList<>();
        boolean inside = false;
        for (String line : all) {
            if (line.startsWith("```")) {
                inside = line.equals("```java");
            } else if (inside) {
                found.add(line.trim());
            }
        }
        return found;
    }

    private static List<String> exampleOf(List<String> all) {
        List<String> found = new ArrayList<>();
        boolean inside = false;
        for (String line : all) {
            if (line.equals("    private static void example() {")) {
                inside = true;
            } else if (inside && line.trim().startsWith("c.eq(")) {
                inside = false;
            } else if (inside) {
                found.add(line.trim());
            }
        }
        return found;
    }

    private static void example() {
        HullLine line = new HullLine();
        int lagoon = line.stop(2, 4, true);            // 0: 2 buoys, 4 beds, a light
        int island = line.stop(1, 0, true);            // 1
        int leg = line.leg(lagoon, island, 120);       // 0: 120 miles
        int boat = line.boat(lagoon, 10000, 20000, 120, 60, 300, 1000, 3);   // 0: an hour, 60 gallons
        line.drums(lagoon, 5);                         // 5 drums of 50 gallons
        line.fuel(boat, 2);                            // 100 gallons are in its tank
        int bag = line.bag(lagoon, island, 400, 90);   // 0: 400 pounds, due by minute 90
        line.load(bag, boat);                          // true
        line.wind(leg, 0, -20);                        // 0, the first fact: 20 miles an hour against it
        int minutes = line.lift(boat, leg);            // 72; had it been refused: -2 .. -6
        line.go(minutes);                              // 72: it is that minute now, and the boat has landed
        line.unload(bag);                              // true
        int late = line.mail(bag, 3);                  // 0: in time
        int byWind = line.mail(bag, 15);               // 12 minutes were lost by wind
        int left = line.of(boat, 2);                   // 28 gallons
        line.feed(0x6c696674, 0x20617420, 0x30206966, 0x20686f75, 0x723e353b);   // 20: "lift at 0 if hour>5;"
        line.rules();                                  // 1 line: none lifts at stop 0 ahead of 6 o'clock
        c.eq("minutes", minutes, 72);
        c.eq("late", late, 0);
        c.eq("lost by wind", byWind, 12);
        c.eq("fuel left", left, 28);
        c.eq("delivered", line.count(11), 1);
        c.eq("lines of rules", line.count(13), 1);
    }

    /** The same calls once more, for what example() lets fall. */
    private static void answers() {
        HullLine line = new HullLine();
        c.eq("stop", line.stop(2, 4, true), 0);
        c.eq("stop", line.stop(1, 0, true), 1);
        c.eq("leg", line.leg(0, 1, 120), 0);
        c.eq("boat", line.boat(0, 10000, 20000, 120, 60, 300, 1000, 3), 0);
        c.eq("drums", line.drums(0, 5), 5);
        c.eq("fuel", line.fuel(0, 2), 100);
        c.eq("bag", line.bag(0, 1, 400, 90), 0);
        c.yes("load", line.load(0, 0));
        c.eq("wind", line.wind(0, 0, -20), 0);
        c.eq("lift", line.lift(0, 0), 72);
        c.eq("go", line.go(72), 72);
        c.yes("unload", line.unload(0));
        c.eq("feed", line.feed(0x6c696674, 0x20617420, 0x30206966, 0x20686f75, 0x723e353b), 20);
        c.eq("rules", line.rules(), 1);
        line.boat(0, 10000, 20000, 120, 60, 300, 1000, 3);
        c.eq("barred at stop 0, ahead of 6 o'clock", line.barred(1, false), 0);
        line.go(360 - 73);
        c.eq("barred in minute 359", line.barred(1, false), 0);
        line.go(1);
        c.eq("not at 6 o'clock", line.barred(1, false), HullLine.NONE);
        c.eq("kind 4 at place 8", Check.rules(line, "lift at 12 if day=0;"), -85);
    }

    private static void everyCallIsNamed(String page) {
        for (java.lang.reflect.Method m : HullLine.class.getMethods()) {
            if (m.getDeclaringClass() == HullLine.class) {
                c.yes("the page names " + m.getName(), page.contains("`" + m.getName() + "`"));
            }
        }
    }
}
