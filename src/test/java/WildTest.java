import java.util.Random;

/** Wild calls by lot (always the same ones): nothing but the exceptions of the face ever comes out. */
public final class WildTest {
    private static final int OBJECTS = 3000;
    private static final int CALLS = 512;
    private static final String[] METHODS = {"feed", "table", "program", "fault", "about", "answer", "value", "hole",
        "quarrel", "idle", "term", "offered", "tell", "told", "run", "fails", "failing", "changed", "count"};
    private static final String[] TEXTS = {
        "input a: x y; input b: p q r; output o: s t; row x p -> s; row * !p -> t; row y * -> s;",
        "input a:1 2 3 4;input b:1 2 3 4;input c:1 2 3 4 5;input d:1 2 3 4 5;output o:s t u;row 1 !2 * 3/4->s;row*!1 5 *->t;",
        "input a: x y;output o: s t;", "input a: x y;", "else s;", "when a: x then t; else s;",
        "when a: !x and b: p/q then s; else t;", "when", "row", "\u0000\u00ff"};

    private final Random lot = new Random(7L);

    private WildTest() {
    }

    public static void main(String[] args) {
        WildTest test = new WildTest();
        for (int k = 0; k < OBJECTS; k++) {
            test.useOne(new ExampleTables());
        }
        Check.end();
    }

    private void useOne(ExampleTables x) {
        int calls = 0;
        while (calls < CALLS - 60) {
            if (lot.nextInt(12) == 0) {
                String text = TEXTS[lot.nextInt(TEXTS.length)];
                Texts.feed(x, text);
                int n = text.length();
                boolean program = lot.nextBoolean();
                int table = some();
                allowed("text", true, Check.outcome(() -> program ? x.program(table, n) : x.table(n)));
                calls += text.length() / 20 + 2;
            } else {
                callOne(x, METHODS[lot.nextInt(METHODS.length)]);
                calls++;
            }
        }
    }

    private void callOne(ExampleTables x, String method) {
        int a = some();
        int b = some();
        int c = some();
        boolean illegalToo = method.equals("table") || method.equals("program") || method.equals("changed");
        allowed(method + " " + a + " " + b + " " + c, illegalToo, Check.outcome(() -> call(x, method, a, b, c)));
    }

    private static Object call(ExampleTables x, String method, int a, int b, int c) {
        switch (method) {
            case "feed": return x.feed(a, b, c, a, b);
            case "table": return x.table(a);
            case "program": return x.program(a, b);
            case "fault": return x.fault();
            case "about": return x.about(a, b);
            case "answer": return x.answer(a, b, c);
            case "value": return x.value(a, b, c);
            case "hole": return x.hole(a, b);
            case "quarrel": return x.quarrel(a, b, c);
            case "idle": return x.idle(a, b);
            case "term": return x.term(a, b, c);
            case "offered": return x.offered(a, b, c);
            case "tell": return x.tell(a);
            case "told": return x.told(a);
            case "run": return x.run(a, b);
            case "fails": return x.fails(a, b);
            case "failing": return x.failing(a, b);
            case "changed": return x.changed(a, b, c);
            default: return x.count(a);
        }
    }

    private static void allowed(String what, boolean illegalToo, String outcome) {
        boolean good = !outcome.endsWith("Exception") || outcome.equals(Check.NO_SUCH_ELEMENT)
            || illegalToo && outcome.equals(Check.ILLEGAL_ARGUMENT);
        Check.due(what, "good", () -> good ? "good" : outcome);
    }

    private int some() {
        switch (lot.nextInt(10)) {
            case 0: return Integer.MIN_VALUE + lot.nextInt(2);
            case 1: return Integer.MAX_VALUE - lot.nextInt(2);
            case 2: return lot.nextInt();
            case 3: return lot.nextInt(450) - 2;
            default: return lot.nextInt(9) - 2;
        }
    }
}
