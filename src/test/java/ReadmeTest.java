import java.io.IOException;
import java.nio.file.Files;
import java.nio.file.Path;
import java.util.ArrayList;
import java.util.List;

/** The lines of Java in README.md: each stands here too, in the same order, and answers what is told behind it. */
public final class ReadmeTest {
    private static final String HERE = "src/test/java/ReadmeTest.java";

    private ReadmeTest() {
    }

    public static void main(String[] args) throws IOException {
        sameLines(javaLines("README.md"), Files.readAllLines(Path.of(HERE)));
        examples();
        Check.end();
    }

    private static List<String> javaLines(String file) throws IOException {
        List<String> lines = new ArrayList<>();
        boolean inside = false;
        for (String line : Files.readAllLines(Path.of(file))) {
            if (line.startsWith("```")) {
                inside = line.equals("```java");
            } else if (inside && !line.isBlank()) {
                lines.add(line.strip());
            }
        }
        Check.due("lines of Java in " + file, true, () -> lines.size() > 20);
        return lines;
    }

    private static void sameLines(List<String> lines, List<String> here) {
        int at = 0;
        for (String line : lines) {
            while (at < here.size() && !here.get(at).strip().equals(line)) {
                at++;
            }
            boolean found = at < here.size();
            Check.due("in " + HERE + ", behind the one before: " + line, true, () -> found);
            at++;
        }
    }

    /** Puts a text on the tape, blanks behind it up to whole twenties; answers its length. */
    static int feed(ExampleTables x, String text) {
        for (int at = 0; at < text.length(); at += 20) {
            x.feed(four(text, at), four(text, at + 4), four(text, at + 8), four(text, at + 12), four(text, at + 16));
        }
        return text.length();
    }

    /** Four bytes as one number, the first one highest. */
    static int four(String text, int from) {
        int number = 0;
        for (int i = from; i < from + 4; i++) {
            number = number << 8 | (i < text.length() ? text.charAt(i) : ' ');
        }
        return number;
    }

    private static void examples() {
        ExampleTables x = new ExampleTables();
        int n = feed(x, "input age: child adult; input day: week sunday; output pay: free half full;"
            + "row child * -> half; row * sunday -> free; row child week -> half;");
        int table = x.table(n); // 0: its number
        int cases = x.about(table, 1); // 4: child week, child sunday, adult week, adult sunday
        int pay = x.answer(table, 1, 0); // 1: half, in the CASE child sunday
        int row = x.answer(table, 1, 1); // 0: by the first ROW that fits
        int hole = x.hole(table, 0); // 2: no ROW tells what an adult pays in the week
        int other = x.quarrel(table, 0, 1); // 1: the greater ROW of the QUARREL between ROWS 0 and 1
        boolean idle = x.idle(table, 2); // true: without ROW 2 nothing would change
        int age = x.offered(table, 0, 0); // 1: the ROW that is OFFERED tells adult
        int day = x.offered(table, 0, 1); // 0: and week
        int bytes = x.tell(table); // 42: "free if age is adult", 10, "half if age is child", 10
        int first = x.told(0); // 102: the f of free
        answers("of a TABLE", List.of(table, cases, pay, row, hole, other, idle, age, day, bytes, first),
            List.of(0, 4, 1, 0, 2, 1, true, 1, 0, 42, 102));
        Check.due("told", "free if age is adult\nhalf if age is child\n", () -> Texts.told(x));
        Check.due("the lesser ROW", 0, () -> x.quarrel(table, 0, 0));

        int old = x.program(table, feed(x, "when age: child then half; else full;")); // 0: its number
        int late = x.program(table, feed(x, "when age: child then half; when day: sunday then free; else full;")); // 1
        int full = x.run(old, 2); // 2: full, in the CASE adult week
        int fails = x.fails(old, ExampleTables.NONE); // 1: in one CASE it FAILS a ROW
        int failing = x.failing(old, 1); // 3: ROW 1, in the CASE adult sunday
        int better = x.fails(late, ExampleTables.NONE); // 0
        int changed = x.changed(old, late, 0); // 1: one CASE
        int open = x.changed(old, late, 1); // 0: which is no HOLE
        answers("of PROGRAMS", List.of(old, late, full, fails, failing, better, changed, open),
            List.of(0, 1, 2, 1, 3, 0, 1, 0));

        int fault = x.table(feed(x, "input age: child child;")); // -5: -1 - 4, told already
        int place = x.fault(); // 17: where the second child begins
        answers("of a FAULT", List.of(fault, place), List.of(-5, 17));
    }

    private static void answers(String what, List<Object> got, List<Object> want) {
        Check.due(what, want, () -> got);
    }
}
