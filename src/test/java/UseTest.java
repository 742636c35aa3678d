import java.io.IOException;
import java.nio.file.Files;
import java.nio.file.Path;
import java.util.ArrayList;
import java.util.List;

/** The example in README.md: its lines stand here too, and answer what they are said to answer. */
final class UseTest {
    public static void main(String[] args) throws IOException {
        example();
        sameLines();
        Check.end("UseTest");
    }

    private static void example() {
        TrolleyGang ring = new TrolleyGang();
        ring.setCold(0, 3);
        ring.setSwan(4, 9);
        int first = ring.bus(0, true);
        int second = ring.bus(12, false);
        int orders = ring.order(9);
        int earned = ring.pass(24);
        int worn = ring.span(9, 0);
        int hours = ring.falls(9);
        int best = ring.advise(48);
        Check.due("first", first, 0);
        Check.due("second", second, 1);
        Check.due("orders", orders, 1);
        Check.due("earned", earned, 346);
        Check.due("worn", worn, 57);
        Check.due("hours", hours, 17);
        Check.due("best", best, 9);
        coldByNightOnly();
        swanEachTwelveHours();
    }

    /** "3 more frost in the hours 0, 24, 48 .. (8, 16 .. are by day)" */
    private static void coldByNightOnly() {
        TrolleyGang ring = new TrolleyGang();
        ring.setCold(0, 3);
        for (int hour = 0; hour < 72; hour++) {
            int before = ring.span(0, 1);
            ring.pass(1);
            Check.due("more frost in the hour " + hour, ring.span(0, 1) > before, hour % 24 == 0);
        }
    }

    /** "a swan at span 9 in the hours 4, 16, 28 .." */
    private static void swanEachTwelveHours() {
        TrolleyGang ring = new TrolleyGang();
        ring.setSwan(4, 9);
        for (int hour = 0; hour < 40; hour++) {
            int before = ring.span(9, 0);
            ring.pass(1);
            Check.due("a swan in the hour " + hour, ring.span(9, 0) > before, hour == 4 || hour == 16 || hour == 28);
        }
    }

    private static void sameLines() throws IOException {
        List<String> here = new ArrayList<>();
        for (String line : Files.readAllLines(Path.of("src/test/java/UseTest.java"))) {
            here.add(line.strip());
        }
        boolean inExample = false;
        int lines = 0;
        for (String line : Files.readAllLines(Path.of("README.md"))) {
            if (line.startsWith("```")) {
                inExample = line.equals("```java");
            } else if (inExample) {
                lines++;
                Check.holds("README.md has a line that is not tried: " + line,
                        here.contains(line.split("//")[0].strip()));
            }
        }
        Check.due("lines of the example in README.md", lines, 10);
    }
}
