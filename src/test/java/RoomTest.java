import java.lang.management.ManagementFactory;
import java.util.List;

/**
 * All calls of one run live in one room of some 600,000 objects and 7.3 million fields and elements. A field or an
 * element takes a byte at least, an object sixteen: a run that makes fewer bytes than these is far within the room.
 */
public final class RoomTest {
    private static final long MOST_BYTES = 2_000_000L;
    private static final int CALLS = 512;

    private RoomTest() {
    }

    private interface Run {
        void useOne(ExampleTables x);
    }

    public static void main(String[] args) {
        within("six TABLES, twelve PROGRAMS, each as dear as can be", RoomTest::fill);
        within("faulty TABLES alone", x -> repeat(x, Texts.WIDE + "row * * * * * -> 1; row 1 * * * * -> 3;", false));
        within("faulty PROGRAMS alone", x -> repeat(x, "when a: 1 and e: !2 then 2; else 3;", true));
        within("TOLD again and again", RoomTest::tellOn);
        Check.end();
    }

    /** Below 0 where this machine can't tell it. */
    private static long bytesMade() {
        Object bean = ManagementFactory.getThreadMXBean();
        return bean instanceof com.sun.management.ThreadMXBean made
            ? made.getThreadAllocatedBytes(Thread.currentThread().getId()) : -1L;
    }

    private static void within(String what, Run run) {
        // The first run pays for the classes that come in.
        run.useOne(new ExampleTables());
        long before = bytesMade();
        run.useOne(new ExampleTables());
        long bytes = bytesMade() - before;
        if (before < 0) {
            System.out.println("NOT MEASURED here: " + what);
            return;
        }
        System.out.println(what + ": " + bytes + " bytes, the test's own texts among them");
        // A run that makes nothing was not measured either.
        Check.due(what + ": bytes made", "few", () -> bytes > 0 && bytes < MOST_BYTES ? "few" : bytes);
    }

    /** 400 CASES and 40 ROWS that leave many TERMS; 1620 TERMS are the most that five INPUTS make. */
    private static String dear() {
        StringBuilder text = new StringBuilder(Texts.WIDE);
        for (int row = 0; row < 40; row++) {
            String cells = List.of(row % 5 + 1, row / 5 % 5 + 1, row * 7 % 4 + 1, row / 3 % 2 + 1, row % 2 + 1).toString();
            text.append("row ").append(cells.replaceAll("[^0-9 ]", "")).append("->").append(row % 2 + 1).append(";");
        }
        return text.toString();
    }

    private static void fill(ExampleTables x) {
        String text = dear();
        for (int k = 0; k < 6; k++) {
            int number = k;
            Check.due("table", number, () -> Texts.table(x, text));
        }
        for (int k = 0; k < 12; k++) {
            int number = k;
            Check.due("program", number, () -> Texts.program(x, number % 6, "when a:1 then 2;else 1;"));
        }
        Check.due("CASES", 400, () -> x.about(0, 1));
        Check.due("ROWS", 40, () -> x.about(0, 3));
    }

    private static void repeat(ExampleTables x, String text, boolean program) {
        Texts.table(x, Texts.WIDE);
        int each = (text.length() + 19) / 20 + 1;
        for (int calls = Texts.WIDE.length() / 20 + 2; calls + each <= CALLS; calls += each) {
            Check.due("faulty", -4, () -> program ? Texts.program(x, 0, text) : Texts.table(x, text));
        }
    }

    private static void tellOn(ExampleTables x) {
        String text = dear();
        Texts.table(x, text);
        for (int calls = text.length() / 20 + 2; calls < CALLS; calls++) {
            x.tell(0);
        }
    }
}
