/** The promises 1 to 20, sentence by sentence: what is least, most, none, full, refused, and what then stays as it is. */
public final class CallEdgesTest {
    private static final int NONE = ExampleTables.NONE;
    private static final int BLANKS = 0x20202020;
    private static final String ELSE = "else s;";

    private CallEdgesTest() {
    }

    public static void main(String[] args) {
        calls512();
        promise01();
        promise02();
        promise02Full();
        promise03();
        promise03AfterFaults();
        promise03Refused();
        promise03Six();
        promise04();
        promise04Refused();
        promise04Twelve();
        promise05();
        noSuchTable();
        noSuchProgram();
        promise06();
        promise07();
        promise08();
        promise09();
        promise10();
        promise11();
        promise12();
        promise13();
        promise14();
        promise14Kept();
        promise15();
        promise16();
        promise17();
        promise18();
        promise19();
        promise20();
        Check.end();
    }

    /** What can change in an object, as one text; of OUT only the ends, for an object has but 512 calls. */
    private static String state(ExampleTables x) {
        StringBuilder all = new StringBuilder();
        for (int what = 0; what < 3; what++) {
            all.append(x.count(what)).append(' ');
        }
        int kept = x.count(3);
        all.append(kept).append(' ').append(x.fault());
        if (kept > 0) {
            all.append(' ').append(x.told(0)).append(' ').append(x.told(kept - 1));
        }
        return all.toString();
    }

    /** A call that throws, and by which nothing changes. */
    private static void refused(String exception, String what, ExampleTables x, Check.Call call) {
        String before = state(x);
        Check.due(what, exception, call);
        Check.due("nothing changes by " + what, before, () -> state(x));
    }

    private static void calls512() {
        Check.sentence("An object is used for at most 512 calls after it has been made");
        ExampleTables x = new ExampleTables();
        int[] words = {0x696e7075, 0x7420613a, 0x7820793b, 0x6f757470, 0x7574206f, 0x3a732074, 0x3b726f77, 0x2a2d3e73, 0x3b202020};
        Check.due("call 1", 20, () -> x.feed(words[0], words[1], words[2], words[3], words[4]));
        Check.due("call 2", 40, () -> x.feed(words[5], words[6], words[7], words[8], BLANKS));
        Check.due("call 3", 0, () -> x.table(40));
        for (int call = 4; call < 510; call += 2) {
            Check.due("call " + call, 12, () -> x.tell(0));
            Check.due("call " + (call + 1), 115, () -> x.told(0));
        }
        Check.due("call 510", 20, () -> x.feed(0x656c7365, 0x20743b20, BLANKS, BLANKS, BLANKS));
        Check.due("call 511", 0, () -> x.program(0, 20));
        Check.due("call 512", 1, () -> x.run(0, 1));
    }

    private static void promise01() {
        Check.sentence("NONE = -1: There is none");
        Check.due("NONE", -1, () -> ExampleTables.NONE);
        Check.sentence("A new object: No TABLES, PROGRAMS");
        ExampleTables used = Texts.withPrograms(Texts.SMALL, ELSE);
        used.tell(0);
        Texts.feed(used, ELSE);
        Check.due("a FAULT of another", -2, () -> Texts.table(used, "input"));
        ExampleTables x = new ExampleTables();
        Check.wholeRow("count", x::count, 0, 0, 0, 0);
        Check.due("fault", NONE, x::fault);
        Check.noneBeyond("about", 0, 0, k -> x.about(k, 0));
        Check.noneBeyond("run", 0, 0, k -> x.run(k, 0));
        Check.noneBeyond("told", 0, 0, x::told);
        // Nor does the other lose any by it.
        Check.row("count of the other", used::count, 1, 1, 0, 36);
    }

    private static void promise02() {
        Check.sentence("Twenty bytes come behind the tape, of each number the highest first");
        for (int at = 0; at < 20; at++) {
            for (int odd : new int[] {'@', 0, 128, 255}) {
                int[] numbers = {BLANKS, BLANKS, BLANKS, BLANKS, BLANKS};
                int shift = 24 - at % 4 * 8;
                numbers[at / 4] = BLANKS & ~(255 << shift) | odd << shift;
                ExampleTables x = new ExampleTables();
                x.feed(BLANKS, BLANKS, BLANKS, BLANKS, BLANKS);
                Check.due("feed", 40, () -> x.feed(numbers[0], numbers[1], numbers[2], numbers[3], numbers[4]));
                Check.due("byte " + odd + " at " + at, -2, () -> x.table(40));
                Check.due("its place", 20 + at, x::fault);
            }
        }
        Check.sentence("how many it has");
        ExampleTables x = new ExampleTables();
        for (int k = 1; k <= 50; k++) {
            int want = 20 * k;
            Check.due("feed " + k, want, () -> x.feed(Check.LEAST, NONE, 0, 1, Check.MOST));
            Check.due("count", want, () -> x.count(2));
        }
        x.table(1000);
        Check.due("from the start again", 20, () -> x.feed(0, 0, 0, 0, 0));
    }

    private static void promise02Full() {
        Check.sentence("NONE, and none come, if it would have more than 1,000");
        ExampleTables x = new ExampleTables();
        Texts.feed(x, " ".repeat(980));
        Check.due("up to 1,000", 1000, () -> x.feed(BLANKS, BLANKS, BLANKS, BLANKS, BLANKS));
        for (int k = 0; k < 3; k++) {
            Check.due("beyond", NONE, () -> x.feed(0, 0, 0, 0, 0));
        }
        Check.due("none come", 1000, () -> x.count(2));
        Check.illegal("nor are 1,001 there", () -> x.table(1001));
        Check.due("all are blanks still", -2, () -> x.table(1000));
        Check.due("so that the end is too soon", 1000, x::fault);
        Check.due("then there is room again", 20, () -> x.feed(BLANKS, BLANKS, BLANKS, BLANKS, BLANKS));
        Check.due("of blanks", -2, () -> x.table(20));
        Check.due("alone", 20, x::fault);
    }

    private static void promise03() {
        Check.sentence("The tape's first n bytes");
        ExampleTables x = new ExampleTables();
        Texts.feed(x, Texts.TINY + "@@@@@");
        Check.due("the first 25 of 40", 0, () -> x.table(25));
        Texts.feed(x, Texts.TINY + "@@@@@");
        Check.due("the first 26 of 40", -2, () -> x.table(26));
        Check.due("where the 26th stands", 25, x::fault);
        Texts.feed(x, Texts.TINY + "     ");
        Check.due("all", 1, () -> x.table(40));
        Texts.feed(x, Texts.TINY);
        Check.due("none", -2, () -> x.table(0));
        Check.due("none of an empty tape", -2, () -> x.table(0));
        Check.due("ends at 0", 0, x::fault);
        Check.sentence("(it is empty then)");
        Check.due("behind a FAULT", 0, () -> x.count(2));
        Texts.feed(x, Texts.TINY + "row * -> s;");
        Check.due("a TABLE of the first bytes", 2, () -> x.table(25));
        Check.due("behind a TABLE", 0, () -> x.count(2));
        Check.illegal("what was behind them is gone", () -> x.table(1));
        Check.due("the next is read from its own start", 3, () -> Texts.table(x, Texts.OPEN));
        Check.sentence("its number (from 0 on), or - 1 - its FAULT");
        Check.due("1", -2, () -> Texts.table(x, "input a: x;"));
        Check.due("2", -3, () -> Texts.table(x, "input abcdefghi: x y;"));
        Check.due("3", -4, () -> Texts.table(x, Texts.TINY + "row z -> s;"));
        Check.due("4", -5, () -> Texts.table(x, "input a: x x;"));
        Check.due("a FAULT takes no number", 4, () -> Texts.table(x, Texts.SMALL));
        Check.row("each has its own CASES", k -> x.about(k, 1), 2, 2, 2, 8, 6);
    }

    private static void promise03AfterFaults() {
        Check.sentence("its FAULT: nothing of a faulty text is in the next one");
        ExampleTables x = new ExampleTables();
        Check.due("five INPUTS, 400 CASES, two ROWS", -2,
            () -> Texts.table(x, Texts.WIDE + "row * * * * * -> 1; row 1 * * * * -> 2"));
        Check.due("one INPUT", 0, () -> Texts.table(x, Texts.TINY));
        Check.wholeRow("alone", what -> x.about(0, what), 1, 2, 2, 0, 2, 0, 0, 0, 1);
        Check.due("40 ROWS", -2, () -> Texts.table(x, Texts.TINY + "row*->s;".repeat(40) + "@"));
        Check.due("one ROW", 1, () -> Texts.table(x, Texts.TINY + "row x->t;"));
        Check.wholeRow("alone", what -> x.about(1, what), 1, 2, 2, 1, 1, 0, 0, 1, 1);
        Check.row("fits alone", number -> x.answer(1, number, 2), 1, 0);
        Check.due("40 ROWS again", -2, () -> Texts.table(x, Texts.TINY + "row*->s;".repeat(40) + "@"));
        Check.due("40 others", 2, () -> Texts.table(x, Texts.TINY + "row x->t;".repeat(40)));
        Check.wholeRow("alone", what -> x.about(2, what), 1, 2, 2, 40, 1, 0, 40, 1, 1);
        Check.due("a PROGRAM with WHENS", -2, () -> Texts.program(x, 0, "when a: x then t; when a: * then t; else t"));
        Check.due("one without", 0, () -> Texts.program(x, 0, ELSE));
        Check.wholeRow("answers by its own 'else'", number -> x.run(0, number), 0, 0);
        Check.due("40 WHENS", -2, () -> Texts.program(x, 0, "when a:*then t;".repeat(40)));
        Check.due("one other", 1, () -> Texts.program(x, 0, "when a:y then s;else t;"));
        Check.wholeRow("answers by its own WHEN", number -> x.run(1, number), 1, 0);
        Check.wholeRow("the one before it answers as before", number -> x.run(0, number), 0, 0);
    }

    private static void promise03Refused() {
        Check.sentence("IllegalArgumentException: the tape has not so many, n below 0 (nothing changes)");
        ExampleTables x = Texts.with(Texts.SMALL);
        x.tell(0);
        Check.due("a FAULT", -5, () -> Texts.table(x, "input a: x x;"));
        for (int n : new int[] {1, 20, Check.MOST, -1, -20, Check.LEAST}) {
            refused(Check.ILLEGAL_ARGUMENT, "table(" + n + ") of an empty tape", x, () -> x.table(n));
        }
        Texts.feed(x, Texts.TINY);
        for (int n : new int[] {41, 60, 1000, 1001, Check.MOST, -1, Check.LEAST}) {
            refused(Check.ILLEGAL_ARGUMENT, "table(" + n + ") of 40", x, () -> x.table(n));
        }
        Check.due("the FAULT's place is the same", 11, x::fault);
        Check.due("the text is still there", 1, () -> x.table(40));
    }

    private static void promise03Six() {
        Check.sentence("-9: there are 6");
        ExampleTables x = Texts.with(Texts.TINY, Texts.SMALL, Texts.OPEN, Texts.TINY, Texts.SMALL, Texts.OPEN);
        Check.due("a FAULT of a PROGRAM before", -2, () -> Texts.program(x, 0, "else"));
        Check.due("a 7th", -9, () -> Texts.table(x, Texts.TINY));
        Check.due("empties the tape", 0, () -> x.count(2));
        Check.due("has no FAULT", NONE, x::fault);
        Check.due("is none", 6, () -> x.count(0));
        Check.due("a faulty one", -9, () -> Texts.table(x, "input a: x x;"));
        Check.due("has none", NONE, x::fault);
        Check.due("of no bytes", -9, () -> x.table(0));
        Texts.feed(x, Texts.TINY);
        refused(Check.ILLEGAL_ARGUMENT, "a 7th that the tape has not", x, () -> x.table(41));
        refused(Check.ILLEGAL_ARGUMENT, "a 7th below 0", x, () -> x.table(-1));
        Check.wholeRow("the six are as they were", k -> x.about(k, 1), 2, 6, 8, 2, 6, 8);
        x.table(0);
        Check.due("PROGRAMS of the last may come", 0, () -> Texts.program(x, 5, "else no;"));
    }

    private static void promise04() {
        Check.sentence("Likewise a PROGRAM of a TABLE");
        ExampleTables x = Texts.with(Texts.SMALL, Texts.OPEN);
        Texts.feed(x, "else s; else t;");
        Check.due("the first bytes", 0, () -> x.program(0, 7));
        Check.due("empty then", 0, () -> x.count(2));
        Texts.feed(x, ELSE);
        Check.due("all bytes", 1, () -> x.program(0, 20));
        Texts.feed(x, ELSE);
        Check.due("none", -2, () -> x.program(0, 0));
        Check.due("ends at 0", 0, x::fault);
        Check.due("empty by a FAULT too", 0, () -> x.count(2));
        Check.due("1", -2, () -> Texts.program(x, 0, "else s"));
        Check.due("2", -3, () -> Texts.program(x, 0, "else abcdefghi;"));
        Check.due("3", -4, () -> Texts.program(x, 0, "else yes;"));
        Check.due("4", -5, () -> Texts.program(x, 0, "when a: x/x then s; else t;"));
        Check.due("a FAULT takes no number", 2, () -> Texts.program(x, 1, "else yes;"));
        Check.due("numbers go on over all TABLES", 3, () -> Texts.program(x, 0, "else t;"));
        Check.row("each answers by its own TABLE", k -> x.run(k, 5), 0, 0, 1, 1);
        Check.due("the other TABLE's CASES", 1, () -> x.run(2, 7));
        Check.noSuch("not its own", () -> x.run(3, 7));
    }

    private static void promise04Refused() {
        Check.sentence("NoSuchElementException: no such TABLE (as everywhere)");
        ExampleTables x = Texts.with(Texts.SMALL, Texts.OPEN);
        x.tell(0);
        Check.due("a FAULT", -4, () -> Texts.program(x, 0, "  else x;"));
        Texts.feed(x, ELSE);
        for (int table : new int[] {2, 5, 6, Check.MOST, -1, Check.LEAST}) {
            refused(Check.NO_SUCH_ELEMENT, "program of " + table, x, () -> x.program(table, 7));
            refused(Check.NO_SUCH_ELEMENT, "program of " + table + " beyond the tape", x, () -> x.program(table, 21));
            refused(Check.NO_SUCH_ELEMENT, "program of " + table + " below 0", x, () -> x.program(table, -1));
        }
        Check.sentence("Likewise: IllegalArgumentException: the tape has not so many, n below 0 (nothing changes)");
        for (int n : new int[] {21, 40, 1001, Check.MOST, -1, Check.LEAST}) {
            refused(Check.ILLEGAL_ARGUMENT, "program of " + n + " bytes", x, () -> x.program(0, n));
        }
        Check.due("the FAULT's place is the same", 7, x::fault);
        Check.due("the text is still there", 0, () -> x.program(0, 20));
        refused(Check.ILLEGAL_ARGUMENT, "program of an empty tape", x, () -> x.program(0, 1));
    }

    private static void promise04Twelve() {
        Check.sentence("-9: there are 12");
        ExampleTables x = Texts.with(Texts.SMALL, Texts.TINY);
        for (int k = 0; k < 12; k++) {
            int number = k;
            Check.due("program " + k, number, () -> Texts.program(x, number % 2, number < 6 ? ELSE : "else t;"));
        }
        Check.due("a FAULT of a TABLE before", -2, () -> Texts.table(x, "input"));
        Check.due("a 13th", -9, () -> Texts.program(x, 0, ELSE));
        Check.due("empties the tape", 0, () -> x.count(2));
        Check.due("has no FAULT", NONE, x::fault);
        Check.due("is none", 12, () -> x.count(1));
        Check.due("a faulty one", -9, () -> Texts.program(x, 1, "else"));
        Check.due("has none", NONE, x::fault);
        Check.due("of no bytes", -9, () -> x.program(0, 0));
        Texts.feed(x, ELSE);
        refused(Check.NO_SUCH_ELEMENT, "a 13th of no TABLE", x, () -> x.program(2, 7));
        refused(Check.ILLEGAL_ARGUMENT, "a 13th that the tape has not", x, () -> x.program(0, 21));
        refused(Check.ILLEGAL_ARGUMENT, "a 13th below 0", x, () -> x.program(0, -1));
        Check.wholeRow("the twelve are as they were", k -> x.run(k, 0), 0, 0, 0, 0, 0, 0, 1, 1, 1, 1, 1, 1);
        x.program(0, 0);
        Check.due("TABLES may come still", 2, () -> Texts.table(x, Texts.OPEN));
    }

    private static void promise05() {
        Check.sentence("The place of the FAULT of the latest table() or program(); NONE without");
        ExampleTables x = new ExampleTables();
        Check.due("before all", NONE, x::fault);
        Check.due("a FAULT at 0", -2, () -> Texts.table(x, "output"));
        Check.due("its place", 0, x::fault);
        Check.due("a later one", -5, () -> Texts.table(x, "input a: x x;"));
        Check.due("its place", 11, x::fault);
        Check.due("the same when asked again", 11, x::fault);
        Texts.feed(x, Texts.SMALL);
        Check.due("feed is neither", 11, x::fault);
        Check.due("a TABLE", 0, () -> x.table(100));
        Check.due("without", NONE, x::fault);
        Check.due("a FAULT of a PROGRAM", -2, () -> Texts.program(x, 0, "when a: x then s;"));
        Check.due("its place", 17, x::fault);
        x.tell(0);
        x.about(0, 7);
        Check.due("questions are neither", 17, x::fault);
        Check.due("a PROGRAM", 0, () -> Texts.program(x, 0, ELSE));
        Check.due("without", NONE, x::fault);
        Check.due("a FAULT of a TABLE behind it", -4, () -> Texts.table(x, Texts.TINY + "row q -> s;"));
        Check.due("its place", 29, x::fault);
        Check.due("a PROGRAM behind a TABLE's FAULT", 1, () -> Texts.program(x, 0, ELSE));
        Check.due("without", NONE, x::fault);
        Check.due("the last place there is", -2, () -> Texts.table(x, " ".repeat(1000)));
        Check.due("behind 1,000 bytes", 1000, x::fault);
    }

    private static void noSuchTable() {
        Check.sentence("no such TABLE (as everywhere)");
        ExampleTables x = Texts.with(Texts.SMALL, Texts.OPEN, Texts.TINY + "row * -> s; row * -> t;");
        Texts.program(x, 0, ELSE);
        Texts.program(x, 0, ELSE);
        Texts.program(x, 0, ELSE);
        Texts.program(x, 0, ELSE);
        Check.noneBeyond("about", 0, 3, k -> x.about(k, 0));
        Check.noneBeyond("answer", 0, 3, k -> x.answer(k, 0, 0));
        Check.noneBeyond("value", 0, 3, k -> x.value(k, 0, 0));
        Check.noneBeyond("hole", 0, 3, k -> x.hole(k, 0));
        Check.noneBeyond("quarrel", 0, 3, k -> x.quarrel(k, 0, 0));
        Check.noneBeyond("idle", 0, 3, k -> x.idle(k, 0));
        Check.noneBeyond("term", 0, 3, k -> x.term(k, 0, 0));
        Check.noneBeyond("offered", 0, 3, k -> x.offered(k, 0, 0));
        Check.noneBeyond("tell", 0, 3, x::tell);
        Check.noSuch("one that there is room for", () -> x.about(5, 0));
        Check.noSuch("a 7th", () -> x.about(6, 0));
        Check.due("the last there is", 2, () -> x.about(2, 1));
        Check.due("one more", 3, () -> Texts.table(x, Texts.OPEN));
        Check.due("is there then", 8, () -> x.about(3, 1));
    }

    private static void noSuchProgram() {
        Check.sentence("no such PROGRAM (as everywhere)");
        ExampleTables x = Texts.with(Texts.SMALL, Texts.OPEN, Texts.TINY);
        Check.noneBeyond("run without PROGRAMS", 0, 0, k -> x.run(k, 0));
        Texts.program(x, 0, ELSE);
        Texts.program(x, 0, ELSE);
        Check.noneBeyond("run", 0, 2, k -> x.run(k, 0));
        Check.noneBeyond("fails", 0, 2, k -> x.fails(k, NONE));
        Check.noneBeyond("failing", 0, 2, k -> x.failing(k, NONE));
        Check.noneBeyond("changed from", 0, 2, k -> x.changed(k, 0, 0));
        Check.noneBeyond("changed to", 0, 2, k -> x.changed(0, k, 0));
        Check.noneBeyond("changed of twice the same", 0, 2, k -> x.changed(k, k, 0));
        Check.noSuch("one that there is room for", () -> x.run(11, 0));
        Check.noSuch("a 13th", () -> x.run(12, 0));
        Check.due("one more", 2, () -> Texts.program(x, 0, "else t;"));
        Check.due("is there then", 1, () -> x.run(2, 0));
    }

    private static void promise06() {
        Check.sentence("0 INPUTS, 1 CASES, 2 VALUES of OUTPUT, 3 ROWS, 4 HOLES, 5 QUARRELS (pairs), 6 IDLE ROWS, "
            + "7 TERMS of THE RULE, 8 OFFERED. NoSuchElementException: another what");
        ExampleTables x = Texts.with(Texts.SMALL, Texts.OPEN, Texts.TINY, Texts.WIDE,
            "input a: 1 2; output o: 1 2 3 4 5 6;" + "row*->1;row*->6;".repeat(20));
        Check.wholeRow("of a small one", what -> x.about(0, what), 2, 6, 2, 3, 0, 1, 0, 3, 0);
        Check.wholeRow("of an open one", what -> x.about(1, what), 3, 8, 2, 3, 5, 0, 1, 2, 3);
        Check.wholeRow("of the least", what -> x.about(2, what), 1, 2, 2, 0, 2, 0, 0, 0, 1);
        Check.wholeRow("of the widest", what -> x.about(3, what), 5, 400, 2, 0, 400, 0, 0, 0, 1);
        Check.wholeRow("of 40 ROWS", what -> x.about(4, what), 1, 2, 6, 40, 0, 400, 39, 1, 0);
    }

    private static void promise07() {
        Check.sentence("0 its ANSWER (NONE of a HOLE), 1 the ROW (NONE), 2 how many ROWS fit");
        ExampleTables x = Texts.with(Texts.OPEN, Texts.WIDE + "row * * * * 1 -> 2;");
        Check.row("of a HOLE", what -> x.answer(0, 1, what), NONE, NONE, 0);
        Check.row("of a CASE that two fit", what -> x.answer(0, 6, what), 1, 0, 2);
        Check.row("of a CASE that one fits", what -> x.answer(0, 0, what), 0, 1, 1);
        Check.row("of the last but one of 400", what -> x.answer(1, 398, what), 1, 0, 1);
        Check.row("of the last of 400", what -> x.answer(1, 399, what), NONE, NONE, 0);
        Check.sentence("NoSuchElementException: no such CASE, another what");
        for (int k = 0; k < 3; k++) {
            int what = k;
            Check.noneBeyond("CASE for " + k, 0, 8, number -> x.answer(0, number, what));
            Check.noneBeyond("CASE of 400 for " + k, 0, 400, number -> x.answer(1, number, what));
        }
        Check.noneBeyond("what", 0, 3, what -> x.answer(0, 0, what));
        Check.noneBeyond("what of a HOLE", 0, 3, what -> x.answer(0, 1, what));
    }

    private static void promise08() {
        Check.sentence("Which VALUE an INPUT has in a CASE. NoSuchElementException: no such CASE, INPUT");
        ExampleTables x = Texts.with(Texts.SMALL, Texts.WIDE, Texts.TINY);
        Check.wholeRow("INPUTS", input -> x.value(0, 5, input), 1, 2);
        Check.wholeRow("five INPUTS", input -> x.value(1, 399, input), 4, 4, 3, 1, 1);
        Check.wholeRow("one INPUT", input -> x.value(2, 1, input), 1);
        Check.noneBeyond("CASE", 0, 6, number -> x.value(0, number, 1));
        Check.noneBeyond("CASE of 400", 0, 400, number -> x.value(1, number, 4));
        Check.noneBeyond("CASE and INPUT", 0, 6, k -> x.value(0, k, k));
    }

    private static void promise09() {
        Check.sentence("The i-th HOLE. NoSuchElementException: there is none");
        ExampleTables x = Texts.with(Texts.SMALL, Texts.OPEN, Texts.TINY);
        Check.wholeRow("of no HOLES", i -> x.hole(0, i));
        Check.wholeRow("of some", i -> x.hole(1, i), 1, 2, 3, 4, 5);
        Check.wholeRow("of all", i -> x.hole(2, i), 0, 1);
    }

    private static void promise10() {
        Check.sentence("Of the i-th QUARREL (by the lesser ROW, then the greater)");
        ExampleTables x = Texts.with("input a: x y z; input b: p q; output o: s t;"
            + " row x/y q -> s; row z * -> t; row !x * -> s; row * !p -> t; row y q -> t;", Texts.OPEN);
        Check.wholeRow("the lesser", i -> x.quarrel(0, i, 0), 0, 0, 1, 2, 2);
        Check.wholeRow("the greater", i -> x.quarrel(0, i, 1), 3, 4, 2, 3, 4);
        Check.sentence("2 the first CASE that fits both");
        Check.wholeRow("the CASE", i -> x.quarrel(0, i, 2), 1, 3, 4, 3, 3);
        Check.sentence("NoSuchElementException: there is none, another what");
        Check.noneBeyond("what", 0, 3, what -> x.quarrel(0, 0, what));
        Check.noneBeyond("what of the last", 0, 3, what -> x.quarrel(0, 4, what));
        Check.wholeRow("of no QUARRELS", i -> x.quarrel(1, i, 0));
        ExampleTables y = Texts.with(Texts.TINY + "row*->s;row*->t;".repeat(20));
        Check.row("the last of 400", what -> y.quarrel(0, 399, what), 38, 39, 0);
        Check.noneBeyond("of 400", 0, 400, i -> y.quarrel(0, i, 2));
    }

    private static void promise11() {
        Check.sentence("Whether a ROW is IDLE. NoSuchElementException: no such ROW");
        ExampleTables x = Texts.with(Texts.OPEN, Texts.TINY, Texts.TINY + "row*->s;".repeat(40));
        Check.wholeRow("of three", row -> x.idle(0, row) ? 1 : 0, 0, 0, 1);
        Check.wholeRow("of none", row -> x.idle(1, row) ? 1 : 0);
        Check.due("the 40th", true, () -> x.idle(2, 39));
        Check.noneBeyond("of 40", 0, 40, row -> x.idle(2, row));
    }

    private static void promise12() {
        Check.sentence("Of the i-th TERM of THE RULE: its VALUE of OUTPUT (input NONE), or what it tells of an INPUT (NONE: any)");
        ExampleTables x = Texts.with(Texts.SMALL, Texts.OPEN, Texts.TINY);
        Check.wholeRow("VALUES of OUTPUT", i -> x.term(0, i, NONE), 0, 1, 1);
        Check.wholeRow("the first INPUT", i -> x.term(0, i, 0), NONE, NONE, NONE);
        Check.wholeRow("the second INPUT", i -> x.term(0, i, 1), 0, 1, 2);
        Check.sentence("NoSuchElementException: there is none, no such INPUT");
        Check.noneBeyond("INPUT", NONE, 2, input -> x.term(0, 0, input));
        Check.noneBeyond("INPUT of three", NONE, 3, input -> x.term(1, 1, input));
        // OFFERED are three more, but none of THE RULE.
        Check.noneBeyond("TERM", 0, 2, i -> x.term(1, i, NONE));
        Check.wholeRow("without ANSWERS", i -> x.term(2, i, NONE));
        Check.noSuch("neither TERM nor INPUT", () -> x.term(2, 0, -2));
    }

    private static void promise13() {
        Check.sentence("What the i-th TERM that is OFFERED tells of an INPUT (NONE: any); input NONE: for how many HOLES it holds");
        ExampleTables x = Texts.with(Texts.SMALL, Texts.OPEN, Texts.WIDE);
        Check.wholeRow("HOLES", i -> x.offered(1, i, NONE), 2, 2, 2);
        Check.wholeRow("the first INPUT", i -> x.offered(1, i, 0), 0, 1, 0);
        Check.wholeRow("the second INPUT", i -> x.offered(1, i, 1), 1, 0, NONE);
        Check.wholeRow("the third INPUT", i -> x.offered(1, i, 2), NONE, NONE, 1);
        Check.wholeRow("all 400", i -> x.offered(2, i, NONE), 400);
        Check.sentence("NoSuchElementException likewise");
        Check.noneBeyond("INPUT", NONE, 3, input -> x.offered(1, 2, input));
        Check.noneBeyond("INPUT of five", NONE, 5, input -> x.offered(2, 0, input));
        // TERMS of THE RULE are three, but none is OFFERED.
        Check.wholeRow("without HOLES", i -> x.offered(0, i, NONE));
        Check.noSuch("neither TERM nor INPUT", () -> x.offered(0, 0, -2));
    }

    private static void promise14() {
        Check.sentence("OUT becomes THE RULE, TOLD: how many bytes");
        ExampleTables x = Texts.with(Texts.SMALL, Texts.TINY, Texts.TINY + "row * -> t;");
        Check.due("a long one", 36, () -> x.tell(0));
        Check.due("told", "s if b is p\nt if b is q\nt if b is r\n", () -> Texts.told(x));
        for (int table : new int[] {3, 6, -1, Check.LEAST, Check.MOST}) {
            refused(Check.NO_SUCH_ELEMENT, "tell of " + table, x, () -> x.tell(table));
        }
        Check.due("a shorter one behind it", 12, () -> x.tell(2));
        Check.due("nothing is left of the long one", "t if always\n", () -> Texts.told(x));
        Check.noSuch("not even behind it", () -> x.told(12));
        Check.due("once more", 12, () -> x.tell(2));
        Check.due("it comes anew, not behind", "t if always\n", () -> Texts.told(x));
        Check.due("of no TERMS", 0, () -> x.tell(1));
        Check.due("empty", "", () -> Texts.told(x));
        x.tell(0);
        Check.due("another TABLE", 3, () -> Texts.table(x, Texts.OPEN));
        Check.due("doesn't change OUT", 36, () -> x.count(3));
    }

    /** A TABLE whose RULE is told in 1,997 bytes and those of its last VALUE of OUTPUT; each TERM holds for one CASE. */
    private static String nearly2000(String lastWord) {
        StringBuilder text = new StringBuilder("input aaaaaaaa: a1 a2 a3; input bbbbbbbb: b1 b2 b3;"
            + " input ccccc: c1 c22 c33 c4; output o: x y z " + lastWord + ";");
        String[] thirds = {"c1/c4", "c22", "c33"};
        for (int k = 0; k < 27; k++) {
            int a = k / 9;
            int b = k / 3 % 3;
            int c = k % 3;
            String outcome = k == 26 ? lastWord : String.valueOf("xyz".charAt((a + b + c) % 3));
            text.append("row a").append(a + 1).append(" b").append(b + 1).append(" ").append(thirds[c]);
            text.append("->").append(outcome).append(";");
        }
        return text.toString();
    }

    private static void promise14Kept() {
        Check.sentence("(the first 2,000 are kept)");
        String end = " if aaaaaaaa is a3 and bbbbbbbb is b3 and ccccc is c33\n";
        for (String word : new String[] {"ww", "www", "wwww", "wwwwwwww"}) {
            ExampleTables x = Texts.with(nearly2000(word));
            int all = 1997 + word.length();
            int kept = Math.min(2000, all);
            Check.due("tell", all, () -> x.tell(0));
            Check.due("count", kept, () -> x.count(3));
            String told = word + end;
            int from = all - told.length();
            for (int k = 0; from + k < kept; k++) {
                int at = from + k;
                Check.due("told " + at, (int) told.charAt(k), () -> x.told(at));
            }
            Check.noneBeyond("told", 0, kept, x::told);
        }
    }

    private static void promise15() {
        Check.sentence("Byte k of OUT. NoSuchElementException: there is none that is kept");
        ExampleTables x = Texts.with(Texts.TINY + "row * -> s;");
        Check.wholeRow("before tell", x::told);
        x.tell(0);
        Check.wholeRow("OUT", x::told, 's', ' ', 'i', 'f', ' ', 'a', 'l', 'w', 'a', 'y', 's', 10);
        Check.noSuch("byte 2,000", () -> x.told(2000));
        Check.due("asked again", (int) 's', () -> x.told(0));
    }

    private static void promise16() {
        Check.sentence("What a PROGRAM answers in a CASE. NoSuchElementException: no such PROGRAM (as everywhere), CASE");
        ExampleTables x = Texts.with(Texts.SMALL, Texts.WIDE);
        Texts.program(x, 0, "when b: r then s; else t;");
        Texts.program(x, 1, "when a: 5 and e: 2 then 1; else 2;");
        Check.wholeRow("in six CASES", number -> x.run(0, number), 1, 1, 0, 1, 1, 0);
        Check.row("in the last of 400", k -> x.run(1, 398 + k), 1, 0);
        Check.noneBeyond("of 400", 0, 400, number -> x.run(1, number));
    }

    private static ExampleTables failingOnes() {
        ExampleTables x = Texts.with(Texts.SMALL, Texts.OPEN, Texts.TINY);
        Texts.program(x, 0, "when a: y and b: !q then s; else t;");
        Texts.program(x, 1, "else no;");
        Texts.program(x, 2, ELSE);
        return x;
    }

    private static void promise17() {
        Check.sentence("In how many CASES a PROGRAM FAILS a ROW; row NONE: all ROWS");
        ExampleTables x = failingOnes();
        Check.row("of three ROWS", row -> x.fails(0, row), 1, 1, 0);
        Check.row("all ROWS", program -> x.fails(program, NONE), 2, 2, 0);
        Check.sentence("fails: NoSuchElementException: no such ROW");
        Check.noneBeyond("ROW", NONE, 3, row -> x.fails(1, row));
        Check.noneBeyond("ROW of none", NONE, 0, row -> x.fails(2, row));
    }

    private static void promise18() {
        Check.sentence("The first CASE in which it FAILS a ROW (NONE: any); NONE: there is none");
        ExampleTables x = failingOnes();
        Check.row("of three ROWS", row -> x.failing(0, row), 0, 5, NONE);
        Check.row("any ROW", program -> x.failing(program, NONE), 0, 6, NONE);
        Check.sentence("failing: NoSuchElementException likewise");
        Check.noneBeyond("ROW", NONE, 3, row -> x.failing(1, row));
        Check.noneBeyond("ROW of none", NONE, 0, row -> x.failing(2, row));
    }

    private static void promise19() {
        Check.sentence("How many CASES are CHANGED between two PROGRAMS (what 0), OPEN ones (1), the first CHANGED one (2; NONE)");
        ExampleTables x = Texts.with(Texts.OPEN, Texts.OPEN);
        Texts.program(x, 0, "else no;");
        Texts.program(x, 0, "when a: 1 then yes; else no;");
        Texts.program(x, 1, "else no;");
        Check.wholeRow("from one to another", what -> x.changed(0, 1, what), 4, 2, 4);
        Check.wholeRow("back", what -> x.changed(1, 0, what), 4, 2, 4);
        Check.wholeRow("from one to itself", what -> x.changed(1, 1, what), 0, 0, NONE);
        Check.sentence("changed: NoSuchElementException: another what");
        Check.noneBeyond("what of two TABLES", 0, 3, what -> x.changed(0, 2, what));
        Check.sentence("IllegalArgumentException: they are of two TABLES");
        for (int k = 0; k < 3; k++) {
            int what = k;
            Check.illegal("though these are alike, " + k, () -> x.changed(0, 2, what));
            Check.illegal("the other way, " + k, () -> x.changed(2, 1, what));
            Check.noSuch("no such PROGRAM is of no TABLE, " + k, () -> x.changed(2, 3, what));
        }
    }

    private static void promise20() {
        Check.sentence("0 TABLES, 1 PROGRAMS, 2 bytes of the tape, 3 bytes of OUT that are kept. NoSuchElementException: another what");
        ExampleTables x = Texts.withPrograms(Texts.OPEN, "else yes;", "else no;", "else yes;");
        x.tell(0);
        Texts.feed(x, " ".repeat(40));
        Check.wholeRow("all", x::count, 1, 3, 40, 27);
        Texts.feed(x, " ".repeat(960));
        Check.due("a full tape", 1000, () -> x.count(2));
        x.feed(0, 0, 0, 0, 0);
        Check.due("and no more", 1000, () -> x.count(2));
        Check.due("a FAULT", -2, () -> x.table(1000));
        Check.wholeRow("behind it", x::count, 1, 3, 0, 27);
    }
}
