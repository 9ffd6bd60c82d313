import java.util.Arrays;

/** What TABLES and PROGRAMS mean (the end of the document's part 1, parts 2 and 3), sentence by sentence. */
public final class MeaningEdgesTest {
    private static final int NONE = ExampleTables.NONE;
    private static final String SIX = "input a: 1 2 3 4 5 6; output o: s t; ";
    private static final String SQUARE = "input a: x y; input b: p q; output o: s t; ";
    private static final String TALL = "input a: x y z; input b: p q; output o: s t; ";
    private static final String CUBE = "input a: 0 1; input b: 0 1; input c: 0 1; output o: s t; ";

    private MeaningEdgesTest() {
    }

    public static void main(String[] args) {
        numbersOfCases();
        cells();
        rowsThatFit();
        answers();
        holes();
        quarrels();
        idleRows();
        termsOf();
        ruleByValue();
        ruleMostOfThese();
        ruleFewestInputs();
        ruleFirstAsRow();
        offeredForHolesAlone();
        offeredLikewise();
        toldInWords();
        programsAnswer();
        programsFail();
        programsChange();
        Check.end();
    }

    private static void numbersOfCases() {
        Check.sentence("INPUTS, VALUES are numbered from 0 on");
        ExampleTables x = Texts.with("input a: x y; input b: p q r; input c: u v; output o: s t; row * * * -> t;");
        Check.wholeRow("the first CASE's VALUES", k -> x.value(0, 0, k), 0, 0, 0);
        Check.wholeRow("the last CASE's VALUES", k -> x.value(0, 11, k), 1, 2, 1);
        Check.due("the last VALUE of OUTPUT", 1, () -> x.answer(0, 0, 0));
        Check.sentence("CASES are numbered from 0 on: those of the last INPUT change first");
        Check.wholeRow("the first INPUT", k -> x.value(0, k, 0), 0, 0, 0, 0, 0, 0, 1, 1, 1, 1, 1, 1);
        Check.wholeRow("the second INPUT", k -> x.value(0, k, 1), 0, 0, 1, 1, 2, 2, 0, 0, 1, 1, 2, 2);
        Check.wholeRow("the last INPUT", k -> x.value(0, k, 2), 0, 1, 0, 1, 0, 1, 0, 1, 0, 1, 0, 1);
        ExampleTables y = Texts.with(Texts.WIDE);
        Check.row("the first of 400", k -> y.value(0, 0, k), 0, 0, 0, 0, 0);
        Check.row("the second", k -> y.value(0, 1, k), 0, 0, 0, 0, 1);
        Check.row("the one before the last", k -> y.value(0, 398, k), 4, 4, 3, 1, 0);
        Check.row("the last", k -> y.value(0, 399, k), 4, 4, 3, 1, 1);
        Check.noSuch("none behind it", () -> y.value(0, 400, 0));
    }

    /** For which of six VALUES a CELL holds, in a ROW and in a TEST. */
    private static void cell(String cell, int... holds) {
        ExampleTables x = Texts.withPrograms(SIX + "row " + cell + " -> s;", "when a: " + cell + " then t; else s;");
        Check.wholeRow("ROWS that fit by " + cell, k -> x.answer(0, k, 2), holds);
        Check.wholeRow("TEST " + cell, k -> x.run(0, k), holds);
    }

    private static void cells() {
        Check.sentence("A CELL holds for the VALUES it tells");
        cell("1", 1, 0, 0, 0, 0, 0);
        cell("6", 0, 0, 0, 0, 0, 1);
        cell("6/1", 1, 0, 0, 0, 0, 1);
        cell("2/4/5", 0, 1, 0, 1, 1, 0);
        cell("1/2/3/4/5/6", 1, 1, 1, 1, 1, 1);
        Check.sentence("(*: all; !: all but that)");
        cell("*", 1, 1, 1, 1, 1, 1);
        cell("!1", 0, 1, 1, 1, 1, 1);
        cell("!4", 1, 1, 1, 0, 1, 1);
        cell("!6", 1, 1, 1, 1, 1, 0);
        ExampleTables x = Texts.with(Texts.TINY + "row !x -> s;", Texts.TINY + "row !y -> s;");
        Check.row("all but the first of two", k -> x.answer(0, k, 2), 0, 1);
        Check.row("all but the second of two", k -> x.answer(1, k, 2), 1, 0);
    }

    private static void rowsThatFit() {
        Check.sentence("a ROW fits a CASE, if all its CELLS hold");
        ExampleTables x = Texts.with(SQUARE + "row x q -> s;", CUBE + "row 0 * !0 -> s;", SQUARE + "row * * -> s;",
            Texts.WIDE + "row 5 5 4 2 2 -> 1;", Texts.WIDE + "row !1 * * * 2 -> 1;");
        Check.row("both of two", k -> x.answer(0, k, 2), 0, 1, 0, 0);
        Check.row("all of three", k -> x.answer(1, k, 2), 0, 1, 0, 1, 0, 0, 0, 0);
        Check.row("each CASE", k -> x.answer(2, k, 2), 1, 1, 1, 1);
        Check.due("one of 400", 399, () -> x.about(3, 4));
        Check.due("the last", 1, () -> x.answer(3, 399, 2));
        Check.due("160 of 400", 240, () -> x.about(4, 4));
        Check.row("not by the first CELL alone", k -> x.answer(4, 80 + k, 2), 0, 1);
        Check.row("not by the last CELL alone", k -> x.answer(4, 78 + k, 2), 0, 0);
    }

    private static void answers() {
        Check.sentence("A CASE's ANSWER is that of the first ROW that fits");
        ExampleTables x = Texts.with(SIX + "row 2/3 -> t; row 3/4 -> s; row 1/2/3 -> s; row * -> t; row 5 -> s;");
        Check.wholeRow("ANSWERS", k -> x.answer(0, k, 0), 0, 1, 1, 0, 1, 1);
        Check.wholeRow("by ROWS", k -> x.answer(0, k, 1), 2, 0, 0, 1, 3, 3);
        Check.wholeRow("ROWS that fit", k -> x.answer(0, k, 2), 2, 3, 4, 2, 2, 1);
        ExampleTables y = Texts.with(Texts.TINY + "row x -> s;".repeat(39) + "row * -> t;");
        Check.row("the first of 40 ROWS, the last of them", k -> y.answer(0, k, 1), 0, 39);
        Check.row("of all that fit", k -> y.answer(0, k, 2), 40, 1);
    }

    private static void holes() {
        Check.sentence("a HOLE is a CASE that none fits");
        ExampleTables x = Texts.with(Texts.TINY, SIX + "row !1 -> s;", SIX + "row !6 -> s;", SIX + "row * -> s;",
            SIX + "row 2 -> s; row 4/5 -> t;", Texts.WIDE);
        Check.row("how many", k -> x.about(k, 4), 2, 1, 1, 0, 3, 400);
        Check.wholeRow("all", k -> x.hole(0, k), 0, 1);
        Check.wholeRow("the first", k -> x.hole(1, k), 0);
        Check.wholeRow("the last", k -> x.hole(2, k), 5);
        Check.wholeRow("none", k -> x.hole(3, k));
        Check.wholeRow("some", k -> x.hole(4, k), 0, 2, 5);
        Check.due("the 400th", 399, () -> x.hole(5, 399));
        Check.noneBeyond("of 400", 0, 400, k -> x.hole(5, k));
    }

    /** Of each QUARREL the lesser ROW, the greater one, and the first CASE. */
    private static void quarrelsOf(String table, int... want) {
        ExampleTables x = Texts.with(table);
        int many = want.length / 3;
        Check.due("QUARRELS of " + table, many, () -> x.about(0, 5));
        Check.row("numbers of QUARRELS of " + table, k -> x.quarrel(0, k / 3, k % 3), want);
        Check.noneBeyond("quarrel of " + table, 0, many, k -> x.quarrel(0, k, 0));
    }

    private static void quarrels() {
        Check.sentence("Two ROWS QUARREL, if some CASE fits both");
        quarrelsOf(Texts.TINY);
        quarrelsOf(Texts.TINY + "row x -> s;");
        quarrelsOf(Texts.TINY + "row x -> s; row y -> t;");
        quarrelsOf(Texts.TINY + "row x -> s; row !x -> t;");
        quarrelsOf(Texts.TINY + "row !x -> s; row !y -> t;");
        quarrelsOf("input a: x y z; output o: s t; row !x -> s; row !y -> t; row !z -> s;", 0, 1, 2, 1, 2, 0);
        quarrelsOf(SQUARE + "row x p -> s; row x q -> t;");
        quarrelsOf(SQUARE + "row x p -> s; row y p -> t;");
        quarrelsOf(SQUARE + "row x * -> s; row * q -> t;", 0, 1, 1);
        quarrelsOf(SQUARE + "row * * -> s; row y q -> t;", 0, 1, 3);
        quarrelsOf(Texts.TINY + "row x/y -> s; row y -> t;", 0, 1, 1);
        // Though no CASE has its ANSWER by either of the two.
        quarrelsOf(Texts.TINY + "row * -> s; row x -> s; row x -> t;", 0, 2, 0, 1, 2, 0);
        Check.sentence("and they tell unlike VALUES");
        quarrelsOf(Texts.TINY + "row x -> s; row x -> s;");
        quarrelsOf(Texts.TINY + "row * -> t; row x -> t; row !x -> t;");
        quarrelsOf("input a: x y; output o: s t u; row x -> s; row x -> t; row x -> u;", 0, 1, 0, 0, 2, 0, 1, 2, 0);
    }

    /** Of each ROW 1 if it is IDLE, 0 if not. */
    private static void idleOf(String table, int... want) {
        ExampleTables x = Texts.with(table);
        Check.row("idle of " + table, k -> x.idle(0, k) ? 1 : 0, want);
        Check.noneBeyond("idle of " + table, 0, want.length, k -> x.idle(0, k));
        Check.due("IDLE ROWS of " + table, Arrays.stream(want).sum(), () -> x.about(0, 6));
    }

    private static void idleRows() {
        Check.sentence("A ROW is IDLE, if without it alone each CASE would have the ANSWER (or none) that it has");
        idleOf(Texts.TINY);
        // Without it there would be a HOLE.
        idleOf(Texts.TINY + "row x -> s;", 0);
        // Another would answer otherwise.
        idleOf(Texts.TINY + "row x -> s; row * -> t;", 0, 0);
        // Others would answer likewise in each of its CASES, or in some only.
        idleOf(Texts.TINY + "row x -> s; row * -> s;", 1, 0);
        idleOf(SIX + "row 1/2 -> s; row 1 -> s; row 2 -> s;", 1, 1, 1);
        idleOf(SIX + "row 1/2 -> s; row 1 -> s; row 2 -> t;", 0, 1, 1);
        idleOf(SIX + "row 1/2 -> s; row 1 -> s; row 3 -> t;", 0, 1, 0);
        idleOf(SIX + "row 1/2 -> s; row 2 -> s;", 0, 1);
        // The next that fits answers, not one behind it.
        idleOf(SIX + "row 1 -> s; row 1 -> t; row 1 -> s;", 0, 1, 1);
        // No CASE has its ANSWER by it.
        idleOf(Texts.TINY + "row * -> s; row x -> t;", 0, 1);
        // Without it alone: of those that are alike each is IDLE.
        idleOf(Texts.TINY + "row x -> s; row x -> s;", 1, 1);
        idleOf(Texts.TINY + "row x -> s; row y -> s; row * -> s;", 1, 1, 1);
        int[] all = new int[40];
        Arrays.fill(all, 1);
        idleOf(Texts.TINY + "row*->s;".repeat(40), all);
    }

    private static void termsOf() {
        Check.sentence("if no CASE it holds for has another ANSWER");
        Texts.rule("s if a is x and b is p\nt if a is y\nt if b is q\n", SQUARE + "row x p -> s; row * * -> t;");
        Texts.rule("s if a is x and b is p\ns if a is y and b is q\nt if a is x and b is q\nt if a is y and b is p\n",
            SQUARE + "row x p -> s; row y q -> s; row * * -> t;");
        Check.sentence("(HOLES don't matter)");
        Texts.rule("s if always\n", SQUARE + "row x p -> s; row y p -> s;");
        Texts.rule("2 if always\n", Texts.WIDE + "row 3 2 1 2 1 -> 2;");
        Texts.rule("s if b is q\nt if b is p\n", SQUARE + "row x p -> t; row y q -> s; row y p -> t;");
        Check.sentence("and some has that one");
        Texts.rule("", SQUARE);
        Texts.rule("t if always\n", SQUARE + "row x p -> t;");
    }

    private static void ruleByValue() {
        Check.sentence("THE RULE: for each VALUE of OUTPUT in order");
        Texts.rule("s if a is y\nt if a is x\n", Texts.TINY + "row x -> t; row y -> s;");
        Texts.rule("t if a is x\ns if a is y\n", "input a: x y; output o: t s; row x -> t; row y -> s;");
        Texts.rule("u if a is 2\nw if a is 1\n", "input a: 1 2 3; output o: u v w; row 1 -> w; row 2 -> u;");
        Texts.rule("1 if a is 6\n2 if a is 5\n3 if a is 4\n4 if a is 3\n5 if a is 2\n6 if a is 1\n",
            "input a: 1 2 3 4 5 6; output o: 1 2 3 4 5 6;"
                + " row 1 -> 6; row 2 -> 5; row 3 -> 4; row 4 -> 3; row 5 -> 2; row 6 -> 1;");
        Texts.rule("s if always\n", Texts.TINY + "row * -> s; row x -> t;");
        Check.sentence("as long as some CASE with that ANSWER isn't held by a TERM taken for it");
        Texts.rule("s if always\n", SQUARE + "row x p -> s; row x q -> s; row y p -> s; row y q -> s;");
        Texts.rule("s if a is x\ns if b is p\nt if a is y and b is q\n", SQUARE + "row y q -> t; row * * -> s;");
        Texts.rule("s if a is 1\ns if a is 3\ns if a is 5\nt if a is 2\nt if a is 4\nt if a is 6\n",
            SIX + "row 1/3/5 -> s; row * -> t;");
    }

    private static void ruleMostOfThese() {
        Check.sentence("of all TERMS OF it that which holds for most of these");
        // b is q holds for two, a is y for one and a HOLE.
        Texts.rule("s if b is q\nt if b is p\n", SQUARE + "row x p -> t; row * q -> s;");
        // Behind a is z each of the others holds for one more, though b is p holds for two.
        Texts.rule("s if a is z\ns if a is y\ns if b is p\nt if a is x and b is q\n",
            TALL + "row x p -> s; row x q -> t; row y q -> s; row z * -> s;");
        // Most of these goes before the fewest INPUTS: c is 0 would hold for one, and HOLES.
        Texts.rule("s if a is 1 and b is 1\nt if a is 0\nt if b is 0\n", CUBE + "row 1 1 * -> s; row * * 1 -> t;");
    }

    private static void ruleFewestInputs() {
        Check.sentence("of like ones that which tells the fewest INPUTS");
        Texts.rule("s if always\n", SQUARE + "row y q -> s;");
        Texts.rule("s if a is x\nt if a is y\n", SQUARE + "row x p -> s; row y q -> t;");
        // b is p stands behind a is x and b is p as a row, but tells fewer.
        Texts.rule("s if b is p\nt if b is q\n", SQUARE + "row x p -> s; row * q -> t;");
        Texts.rule("s if c is 1\nt if c is 0\n", CUBE + "row 0 0 1 -> s; row * * 0 -> t;");
    }

    private static void ruleFirstAsRow() {
        Check.sentence("then the first as a row (VALUES by number");
        Texts.rule("t if a is y and b is p\nt if a is x and b is q\ns if a is y and b is q\ns if a is x and b is p\n",
            "input a: y x; input b: q p; output o: t s; row y q -> s; row x p -> s; row * * -> t;");
        Texts.rule("s if a is 2\ns if a is 5\nt if a is 1\nt if a is 3\nt if a is 4\nt if a is 6\n",
            SIX + "row 5 -> s; row 2 -> s; row * -> t;");
        Check.sentence("any behind them all)");
        Texts.rule("s if a is x\ns if b is p\nt if a is y and b is q\n", SQUARE + "row y q -> t; row * * -> s;");
        Texts.rule("s if a is 0\ns if b is 0\ns if c is 0\nt if a is 1 and b is 1 and c is 1\n",
            CUBE + "row 1 1 1 -> t; row * * * -> s;");
        Texts.rule("s if a is 1\ns if b is 1\ns if c is 1\nt if a is 0 and b is 0 and c is 0\n",
            CUBE + "row 0 0 0 -> t; row * * * -> s;");
    }

    /** Of each TERM that is OFFERED for how many HOLES it holds, then what it tells of each INPUT. */
    private static void offeredOf(String table, int... want) {
        ExampleTables x = Texts.with(table);
        int numbers = x.about(0, 0) + 1;
        int many = want.length / numbers;
        Check.due("OFFERED of " + table, many, () -> x.about(0, 8));
        Check.row("numbers of OFFERED of " + table, k -> x.offered(0, k / numbers, k % numbers + NONE), want);
        Check.noneBeyond("offered of " + table, 0, many, k -> x.offered(0, k, NONE));
    }

    private static void offeredForHolesAlone() {
        Check.sentence("OFFERED: as long as some HOLE isn't held: of all TERMS that hold for HOLES alone");
        offeredOf(SQUARE + "row * * -> s;");
        offeredOf(SQUARE, 4, NONE, NONE);
        offeredOf(Texts.WIDE, 400, NONE, NONE, NONE, NONE, NONE);
        offeredOf(SQUARE + "row x * -> s;", 2, 1, NONE);
        offeredOf(SQUARE + "row x * -> s; row * q -> s;", 1, 1, 0);
        offeredOf(SIX + "row 2/3/5 -> s;", 1, 0, 1, 3, 1, 5);
        offeredOf(SQUARE + "row x p -> s; row y q -> t;", 1, 0, 1, 1, 1, 0);
        // The second holds for two HOLES, one of which the first holds already.
        offeredOf(SQUARE + "row x p -> s;", 2, 1, NONE, 2, NONE, 1);
    }

    private static void offeredLikewise() {
        Check.sentence("likewise that with most HOLES that aren't held yet");
        // Behind 0 0 any, any 1 0 holds for two more HOLES, 0 any 0 for one.
        offeredOf(CUBE + "row 0 1 1 -> t; row 1 0 0 -> s; row 1 1 1 -> s;",
            2, 0, 0, NONE, 2, NONE, 1, 0, 2, NONE, 0, 1);
        // Six HOLES by two INPUTS go before four by one.
        offeredOf("input a: 1 2 3 4 5 6; input b: p q; input c: u v; output o: s t; row !1 q * -> s; row !1 * v -> t;",
            6, NONE, 0, 0, 4, 0, NONE, NONE);
        // Of like ones the fewest INPUTS: any p goes before x p.
        offeredOf(SQUARE + "row x q -> s;", 2, 1, NONE, 2, NONE, 0);
        // The first as a row, any behind the VALUES.
        offeredOf(SQUARE + "row y q -> s;", 2, 0, NONE, 2, NONE, 0);
        offeredOf(CUBE + "row 0 0 0 -> s;", 4, 1, NONE, NONE, 4, NONE, 1, NONE, 4, NONE, NONE, 1);
    }

    private static void toldInWords() {
        Check.sentence("its VALUE of OUTPUT, a blank, 'if'");
        Texts.rule("short if a is x\nlongword if a is y\n",
            "input a: x y; output none: short longword; row x -> short; row y -> longword;");
        Check.sentence("then for each INPUT of which it tells a VALUE: a blank, its NAME, a blank, 'is', a blank, the VALUE");
        Texts.rule("s if second is q\nt if second is p\n",
            "input first: x y; input second: p q; output o: s t; row * q -> s; row * p -> t;");
        Check.sentence("(an 'and' between two of these, with blanks)");
        Texts.rule("s if a is 0 and c is 0\nt if a is 1\nt if c is 1\n", CUBE + "row 0 * 0 -> s; row * * * -> t;");
        Texts.rule("s if a is 1 and b is 1 and c is 1 and d is 1 and e is 1\n"
            + "t if a is 2\nt if b is 2\nt if c is 2\nt if d is 2\nt if e is 2\n",
            "input a:1 2;input b:1 2;input c:1 2;input d:1 2;input e:1 2;output o:s t;"
                + "row 1 1 1 1 1 -> s;row * * * * * -> t;");
        Check.sentence("of none: a blank, 'always' (behind the 'if', too)");
        Texts.rule("s if always\n", Texts.TINY + "row * -> s;");
        Check.sentence("10 behind each TERM");
        ExampleTables x = Texts.with(Texts.TINY + "row x -> s; row y -> t;");
        x.tell(0);
        Check.due("behind the first", 10, () -> x.told(11));
        Check.due("behind the last", 10, () -> x.told(23));
        Check.noSuch("none behind that", () -> x.told(24));
    }

    /** What a PROGRAM answers in each CASE. */
    private static void runs(String table, String program, int... want) {
        ExampleTables x = Texts.withPrograms(table, program);
        Check.wholeRow("run of " + program, k -> x.run(0, k), want);
    }

    private static void programsAnswer() {
        Check.sentence("A PROGRAM answers a CASE by its first WHEN");
        runs(SIX, "when a: 1/2 then t; when a: 2/3 then s; when a: 3/4 then t; else s;", 1, 1, 0, 1, 0, 0);
        runs(SIX, "when a: * then t; when a: 1 then s; else s;", 1, 1, 1, 1, 1, 1);
        runs(SIX + "row * -> s;", "when a: 6 then t; else s;", 0, 0, 0, 0, 0, 1);
        Check.sentence("of which all TESTS hold");
        runs(SQUARE, "when a: x and b: p then t; else s;", 1, 0, 0, 0);
        runs(SQUARE, "when b: !p and a: !x then t; else s;", 0, 0, 0, 1);
        runs(SQUARE, "when a: x then t; else s;", 1, 1, 0, 0);
        runs(SQUARE, "when b: q then t; else s;", 0, 1, 0, 1);
        runs(SIX, "when a: 1/2/3 and a: 2/3/4 and a: !3 then t; else s;", 0, 1, 0, 0, 0, 0);
        runs(SIX, "when a: 1 and a: 2 then t; else s;", 0, 0, 0, 0, 0, 0);
        runs(SQUARE, "when a: x and a: y and b: * then t; when b: p then t; else s;", 1, 0, 1, 0);
        Check.sentence("else by its 'else'");
        runs(Texts.TINY, "else s;", 0, 0);
        runs(Texts.TINY, "else t;", 1, 1);
        runs(Texts.TINY + "row * -> s;", "when a: x then s; else t;", 0, 1);
    }

    private static void programsFail() {
        Check.sentence("It FAILS a ROW in a CASE that has its ANSWER by that ROW (the first that fits), if it answers otherwise");
        ExampleTables x = Texts.withPrograms(SIX + "row 1/2/3 -> s; row 3/4 -> s; row 4/5 -> t; row 1 -> t;",
            "else t;", "else s;", "when a: 1/2/3/4 then s; else t;");
        int[][] fails = {{4, 3, 1, 0, 0}, {1, 0, 0, 1, 0}, {0, 0, 0, 0, 0}};
        int[][] failing = {{0, 0, 3, NONE, NONE}, {4, NONE, NONE, 4, NONE}, {NONE, NONE, NONE, NONE, NONE}};
        for (int k = 0; k < 3; k++) {
            int program = k;
            Check.row("fails " + k + " from row NONE on", row -> x.fails(program, row + NONE), fails[k]);
            Check.row("failing " + k + " from row NONE on", row -> x.failing(program, row + NONE), failing[k]);
        }
        // In a HOLE nothing fails.
        ExampleTables y = Texts.withPrograms(Texts.TINY, "else s;");
        Check.due("fails without ROWS", 0, () -> y.fails(0, NONE));
        Check.due("failing without ROWS", NONE, () -> y.failing(0, NONE));
    }

    private static void changes(String table, String one, String other, int... want) {
        ExampleTables x = Texts.withPrograms(table, one, other);
        Check.wholeRow("changed from " + one + " to " + other, what -> x.changed(0, 1, what), want);
        Check.wholeRow("changed from " + other + " to " + one, what -> x.changed(1, 0, what), want);
    }

    private static void programsChange() {
        Check.sentence("CHANGED between two PROGRAMS of one TABLE: CASES that they answer unlike");
        String table = SIX + "row 1/2 -> s;";
        changes(table, "else s;", "else t;", 6, 4, 0);
        changes(table, "else s;", "when a: 6 then t; else s;", 1, 1, 5);
        changes(table, "else s;", "when a: 1 then t; else s;", 1, 0, 0);
        changes(table, "else s;", "when a: * then s; else t;", 0, 0, NONE);
        Check.sentence("OPEN are those of them that are HOLES");
        changes(table, "else s;", "when a: 2/5/6 then t; else s;", 3, 2, 1);
        changes(table, "when a: 4 then t; else s;", "when a: 2/5/6 then t; else s;", 4, 3, 1);
        changes(SIX, "else s;", "when a: 3/4 then t; else s;", 2, 2, 2);
        changes(SIX + "row * -> s;", "else s;", "when a: 3/4 then t; else s;", 2, 0, 2);
    }
}
