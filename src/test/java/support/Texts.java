/** Texts of TABLES and PROGRAMS for the tests, and how they come into an object. */
final class Texts {
    /** Six CASES, no HOLE, one QUARREL, no IDLE ROW. */
    static final String SMALL =
        "input a: x y; input b: p q r; output o: s t; row x p -> s; row * !p -> t; row y * -> s;";
    /** Eight CASES, five HOLES, no QUARREL, one IDLE ROW. */
    static final String OPEN =
        "input a: 0 1; input b: 0 1; input c: 0 1; output z: no yes;"
            + " row 1 1 * -> yes; row 0 0 0 -> no; row 1 1 0 -> yes;";
    /** Two CASES, no ROW. */
    static final String TINY = "input a:x y;output o:s t;";
    /** 400 CASES, five INPUTS, no ROW. */
    static final String WIDE =
        "input a:1 2 3 4 5;input b:1 2 3 4 5;input c:1 2 3 4;input d:1 2;input e:1 2;output o:1 2;";

    private Texts() {
    }

    /** Feeds a text, with blanks behind it up to whole feeds. */
    static void feed(ExampleTables x, String text) {
        for (int from = 0; from < text.length(); from += 20) {
            x.feed(number(text, from), number(text, from + 4), number(text, from + 8),
                number(text, from + 12), number(text, from + 16));
        }
    }

    private static int number(String text, int from) {
        int number = 0;
        for (int i = from; i < from + 4; i++) {
            number = (number << 8) | (i < text.length() ? text.charAt(i) & 255 : ' ');
        }
        return number;
    }

    static int table(ExampleTables x, String text) {
        feed(x, text);
        return x.table(text.length());
    }

    static int program(ExampleTables x, int table, String text) {
        feed(x, text);
        return x.program(table, text.length());
    }

    /** An object with these TABLES. */
    static ExampleTables with(String... tables) {
        ExampleTables x = new ExampleTables();
        for (int k = 0; k < tables.length; k++) {
            String text = tables[k];
            Check.due("table of " + text, k, () -> table(x, text));
        }
        return x;
    }

    /** An object with a TABLE and these PROGRAMS of it. */
    static ExampleTables withPrograms(String table, String... programs) {
        ExampleTables x = with(table);
        for (int k = 0; k < programs.length; k++) {
            String text = programs[k];
            Check.due("program of " + text, k, () -> program(x, 0, text));
        }
        return x;
    }

    /** OUT as far as it is kept. */
    static String told(ExampleTables x) {
        StringBuilder all = new StringBuilder();
        int kept = x.count(3);
        for (int k = 0; k < kept; k++) {
            all.append((char) x.told(k));
        }
        return all.toString();
    }

    /** A TABLE's text with its FAULT at the sign that stands behind '#'. */
    static void faulty(int kind, String marked) {
        ExampleTables x = new ExampleTables();
        String text = unmarked(marked);
        Check.due("table '" + text + "'", -1 - kind, () -> table(x, text));
        Check.due("fault of '" + text + "'", marked.indexOf('#'), x::fault);
        Check.due("no TABLE of '" + text + "'", 0, () -> x.count(0));
    }

    /** Likewise of a PROGRAM's text. */
    static void faultyProgram(int kind, String of, String marked) {
        ExampleTables x = with(of);
        String text = unmarked(marked);
        Check.due("program '" + text + "'", -1 - kind, () -> program(x, 0, text));
        Check.due("fault of '" + text + "'", marked.indexOf('#'), x::fault);
        Check.due("no PROGRAM of '" + text + "'", 0, () -> x.count(1));
    }

    private static String unmarked(String marked) {
        int place = marked.indexOf('#');
        return marked.substring(0, place) + marked.substring(place + 1);
    }

    /** THE RULE of a TABLE, TOLD. */
    static void rule(String want, String table) {
        ExampleTables x = with(table);
        Check.due("tell of " + table, want.length(), () -> x.tell(0));
        Check.due("told of " + table, want, () -> told(x));
    }
}
