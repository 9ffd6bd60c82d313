/** Each promise of the document: ordinary inputs, the edges it names, and wrong inputs. */
public final class PromiseTest {
    private PromiseTest() {
    }

    public static void main(String[] args) {
        promise01NewObject();
        promise02Feed();
        promise03Table();
        promise03Limits();
        promise04Program();
        promise05Fault();
        promise06About();
        promise07Answer();
        promise08Value();
        promise09Hole();
        promise10Quarrel();
        promise11Idle();
        promise12Term();
        promise12Order();
        promise13Offered();
        promise14Tell();
        promise15Told();
        promise16Run();
        promise17Fails();
        promise18Failing();
        promise19Changed();
        promise20Count();
        Check.end();
    }

    private static void promise01NewObject() {
        ExampleTables x = new ExampleTables();
        Check.due("NONE", -1, () -> ExampleTables.NONE);
        for (int what = 0; what < 4; what++) {
            int asked = what;
            Check.due("new: count " + what, 0, () -> x.count(asked));
        }
        Check.due("new: fault", -1, x::fault);
        Check.noSuch("new: about", () -> x.about(0, 0));
        Check.noSuch("new: run", () -> x.run(0, 0));
        Check.noSuch("new: told", () -> x.told(0));
        Check.noSuch("new: tell", () -> x.tell(0));
        Check.noSuch("new: program before the tape", () -> x.program(0, 1));
        Check.illegal("new: table", () -> x.table(1));
    }

    private static void promise02Feed() {
        ExampleTables x = new ExampleTables();
        for (int k = 1; k <= 50; k++) {
            int want = k * 20;
            Check.due("feed " + k, want, () -> x.feed(Check.LEAST, -1, 0, 1, Check.MOST));
        }
        Check.due("feed beyond 1,000", -1, () -> x.feed(0, 0, 0, 0, 0));
        Check.due("feed beyond 1,000 again", -1, () -> x.feed(0, 0, 0, 0, 0));
        Check.due("no bytes came", 1000, () -> x.count(2));
        Check.due("a byte above 127 is no TOKEN", -2, () -> x.table(1000));
        Check.due("at its place", 0, x::fault);
        Check.due("feed again", 20, () -> x.feed(0, 0, 0, 0, 0));

        // Of each number the highest byte comes first: only so do the words come out.
        ExampleTables y = new ExampleTables();
        y.feed(0x696e7075, 0x7420613a, 0x7820793b, 0x6f757470, 0x7574206f);
        y.feed(0x3a732074, 0x3b202020, 0x20202020, 0x20202020, 0x20202020);
        Check.due("table of two feeds", 0, () -> y.table(40));
    }

    private static void promise03Table() {
        ExampleTables x = new ExampleTables();
        Texts.feed(x, Texts.TINY + "this is behind it");
        Check.illegal("table below 0", () -> x.table(-1));
        Check.illegal("table least", () -> x.table(Check.LEAST));
        Check.illegal("table of more than the tape has", () -> x.table(61));
        Check.illegal("table most", () -> x.table(Check.MOST));
        Check.due("nothing has changed", 60, () -> x.count(2));
        Check.due("table of the first bytes", 0, () -> x.table(25));
        Check.due("the tape is empty", 0, () -> x.count(2));
        Check.due("and stays so", -2, () -> x.table(0));
        Check.due("ends too soon at 0", 0, x::fault);
        for (int k = 1; k < 6; k++) {
            int want = k;
            Check.due("table " + k, want, () -> Texts.table(x, Texts.SMALL));
        }
        Check.due("a 7th", -9, () -> Texts.table(x, Texts.SMALL));
        Check.due("a 7th has no FAULT", -1, x::fault);
        Check.due("a 7th empties the tape", 0, () -> x.count(2));
        Check.due("a 7th that is none", -9, () -> Texts.table(x, "input"));
        Check.illegal("a 7th that the tape has not", () -> x.table(1));
        Check.due("six TABLES", 6, () -> x.count(0));

        Texts.faulty(1, "#");
        Texts.faulty(1, "  \n #");
        Texts.faulty(1, "#output o: s t;");
        Texts.faulty(1, "#inputs a: x y;");
        Texts.faulty(1, "#inputinput a: x y;");
        Texts.faulty(1, "#Input a: x y;");
        Texts.faulty(1, "#\tinput a: x y;");
        Texts.faulty(1, "input #row: x y;");
        Texts.faulty(1, "input #: x y;");
        Texts.faulty(1, "input a #x y;");
        Texts.faulty(1, "input a: #; x y;");
        Texts.faulty(1, "input a: x#; output o: s t;");
        Texts.faulty(1, "input a: x #else y;");
        Texts.faulty(1, "input a: x y #* output o: s t;");
        Texts.faulty(1, "input a: x y;#");
        Texts.faulty(1, "input a: x y;  #");
        Texts.faulty(1, "input a: x y; #row x -> s;");
        Texts.faulty(1, "input a: x y; output o: s#; row x -> s;");
        Texts.faulty(1, "input a: x y; output o: s t; #input b: x y;");
        Texts.faulty(1, "input a: x y; output o: s t; #output p: x y;");
        Texts.faulty(1, "input a: x y; output o: s t; #;");
        Texts.faulty(1, "input a: x y; output o: s t; row #-> s;");
        Texts.faulty(1, "input a: x y; output o: s t; row x #y -> s;");
        Texts.faulty(1, "input a: x y; output o: s t; row x #* -> s;");
        Texts.faulty(1, "input a: x y; output o: s t; row * #/ x -> s;");
        Texts.faulty(1, "input a: x y; output o: s t; row !x #/ y -> s;");
        Texts.faulty(1, "input a: x y; output o: s t; row !#* -> s;");
        Texts.faulty(1, "input a: x y; output o: s t; row !#!x -> s;");
        Texts.faulty(1, "input a: x y; output o: s t; row x/#!y -> s;");
        Texts.faulty(1, "input a: x y; output o: s t; row x/#-> s;");
        Texts.faulty(1, "input a: x y; output o: s t; row x #- > s;");
        Texts.faulty(1, "input a: x y; output o: s t; row x #-");
        Texts.faulty(1, "input a: x y; output o: s t; row x #> s;");
        Texts.faulty(1, "input a: x y; output o: s t; row x -> #* ;");
        Texts.faulty(1, "input a: x y; output o: s t; row x -> s #row y -> t;");
        Texts.faulty(1, "input a: x y; output o: s t; row x -> s#");
        Texts.faulty(1, "input a: x y; input b: x y; output o: s t; row x #-> s;");
        Texts.faulty(1, "input a: x y; output o: s t; row x -> s; #when a: x then s;");
        // A long word where no word can stand.
        Texts.faulty(1, "#abcdefghi a: x y;");
        Texts.faulty(1, "input a #abcdefghi x y;");
        Texts.faulty(1, "input a: x y; output o: s t; row x #abcdefghi -> s;");

        Texts.faulty(2, "input #abcdefghi: x y;");
        Texts.faulty(2, "input a: #abcdefghi y;");
        Texts.faulty(2, "input a: x y #abcdefghijklmnop;");
        Texts.faulty(2, "input a: x y; output #abcdefghi: s t;");
        Texts.faulty(2, "input a: x y; output o: s #012345678;");
        Texts.faulty(2, "input a: x y; output o: s t; row #abcdefghi -> s;");
        Texts.faulty(2, "input a: x y; output o: s t; row !#abcdefghi -> s;");
        Texts.faulty(2, "input a: x y; output o: s t; row x/#abcdefghi -> s;");
        Texts.faulty(2, "input a: x y; output o: s t; row x -> #abcdefghi;");

        Texts.faulty(3, "input a: x y; output o: s t; row #z -> s;");
        Texts.faulty(3, "input a: x y; output o: s t; row #a -> s;");
        Texts.faulty(3, "input a: x y; output o: s t; row #s -> s;");
        Texts.faulty(3, "input a: x y; input b: p q; output o: s t; row #p x -> s;");
        Texts.faulty(3, "input a: x y; output o: s t; row !#z -> s;");
        Texts.faulty(3, "input a: x y; output o: s t; row x/#z -> s;");
        Texts.faulty(3, "input a: x y; output o: s t; row x -> #x;");
        // The first along the text, though another comes behind it.
        Texts.faulty(3, "input a: x y; output o: s t; row #z -> @ abcdefghi");

        Texts.faulty(4, "input a: x #x;");
        Texts.faulty(4, "input a: x y #x;");
        Texts.faulty(4, "input a: x y; input #a: x y;");
        Texts.faulty(4, "input a: x y; input b: x y; output #a: s t;");
        Texts.faulty(4, "input a: x y; output o: s t #s;");
        Texts.faulty(4, "input a: x y; output o: s t; row x/#x -> s;");
        Texts.faulty(4, "input a: x y; output o: s t; row x/y/#x -> s;");
    }

    private static void promise03Limits() {
        ExampleTables x = new ExampleTables();
        Check.due("words of 8 signs", 0, () -> Texts.table(x,
            "input abcdefgh: 01234567 12345678; output zzzzzzzz: inputinp t; row 12345678 -> inputinp;"));
        Check.due("NAMES may be VALUES", 1, () -> Texts.table(x, "input a: a o;output o: a o;row a/o->a;"));
        Check.due("no blanks, and many", 2, () -> Texts.table(x,
            "\n\n  input\na\n:x y;output o:s t ; row!x->s;row   *   ->   t;row x / y->s;\n "));
        Check.due("so many ROWS", 3, () -> x.about(2, 3));
        Check.due("6 VALUES each", 3, () -> Texts.table(x, "input a: 1 2 3 4 5 6; output o: 1 2 3 4 5 6;"));
        Check.due("400 CASES", 4, () -> Texts.table(x,
            "input a:1 2 3 4;input b:1 2 3 4;input c:1 2 3 4 5;input d:1 2 3 4 5;output o:1 2;"));
        Check.due("so many CASES", 400, () -> x.about(4, 1));
        Check.due("5 INPUTS", 5, () -> Texts.table(x,
            "input a:1 2 3 4 5;input b:1 2 3 4 5;input c:1 2 3 4;input d:1 2;input e:1 2;output o:1 2;"));
        Check.due("so many INPUTS", 5, () -> x.about(5, 0));

        Texts.faulty(2, "input a: 1 2 3 4 5 6 #7;");
        Texts.faulty(2, "input a: 1 2 3 4 5 6 #1;");
        Texts.faulty(1, "input a: 1 2 3 4 5 6 #row;");
        Texts.faulty(2, "input a: 1 2; output o: 1 2 3 4 5 6 #7;");
        String five = "input a:1 2;input b:1 2;input c:1 2;input d:1 2;input e:1 2;";
        Texts.faulty(2, five + " #input f:1 2;");
        Texts.faulty(1, five + " #inputs f:1 2;");
        Texts.faulty(1, five + "#");
        String wide = "input a:1 2 3 4 5 6;input b:1 2 3 4 5 6;input c:1 2 3 4 5 6;";
        Texts.faulty(2, wide + "input d: 1 #2;");
        Texts.faulty(2, wide + "input d: 1 #1;");
        Texts.faulty(1, wide + "input d: 1 #;");
        Texts.faulty(1, wide + "input d: 1 #then;");
        Texts.faulty(4, wide + "input #a: 1 2;");
        Texts.faulty(2, "input a:1 2 3 4;input b:1 2 3 4;input c:1 2 3 4 5;input d:1 2 3 4 5 #6;");
        Texts.faulty(2, "input a:1 2 3 4;input b:1 2 3 4;input c:1 2 3 4 5;input d:1 2 3 4 5;input e:1 #2;");

        String rows = Texts.TINY + "row*->s;".repeat(40);
        ExampleTables y = new ExampleTables();
        Check.due("40 ROWS", 0, () -> Texts.table(y, rows));
        Check.due("so many ROWS", 40, () -> y.about(0, 3));
        Texts.faulty(2, rows + "#row*->s;");
        Texts.faulty(2, rows + "#row");
        Texts.faulty(1, rows + "#rows");
        Texts.faulty(1, rows + "#*");
        String text = Texts.TINY + "row*->s;".repeat(30);
        Check.due("a text of 1,000 bytes", 1, () -> Texts.table(y, text + " ".repeat(1000 - text.length())));
        Texts.faulty(1, text + " ".repeat(999 - text.length()) + "#;");
    }

    private static void promise04Program() {
        ExampleTables x = Texts.with(Texts.SMALL, Texts.OPEN);
        Texts.feed(x, "else yes; and more");
        Check.noSuch("program of no TABLE", () -> x.program(2, 9));
        Check.noSuch("program of TABLE NONE", () -> x.program(-1, 9));
        Check.noSuch("program of no TABLE, nor bytes", () -> x.program(2, 99));
        Check.illegal("program below 0", () -> x.program(0, -1));
        Check.illegal("program beyond the tape", () -> x.program(0, 21));
        Check.due("nothing has changed", 20, () -> x.count(2));
        Check.due("program of the first bytes", 0, () -> x.program(1, 9));
        Check.due("the tape is empty", 0, () -> x.count(2));
        for (int k = 1; k < 12; k++) {
            int want = k;
            Check.due("program " + k, want, () -> Texts.program(x, 0, "else s;"));
        }
        Check.due("a 13th", -9, () -> Texts.program(x, 0, "else s;"));
        Check.due("a 13th has no FAULT", -1, x::fault);
        Check.due("a 13th empties the tape", 0, () -> x.count(2));
        Check.due("a 13th that is none", -9, () -> Texts.program(x, 1, "else s;"));
        Check.noSuch("a 13th of no TABLE", () -> x.program(2, 0));
        Check.illegal("a 13th that the tape has not", () -> x.program(0, 1));
        Check.due("12 PROGRAMS", 12, () -> x.count(1));

        Texts.faultyProgram(1, Texts.SMALL, "#");
        Texts.faultyProgram(1, Texts.SMALL, "#row x p -> s;");
        Texts.faultyProgram(1, Texts.SMALL, "#elses s;");
        Texts.faultyProgram(1, Texts.SMALL, "else #;");
        Texts.faultyProgram(1, Texts.SMALL, "else #when;");
        Texts.faultyProgram(1, Texts.SMALL, "else s#");
        Texts.faultyProgram(1, Texts.SMALL, "else s; #else s;");
        Texts.faultyProgram(1, Texts.SMALL, "else s; #when a: x then s;");
        Texts.faultyProgram(1, Texts.SMALL, "when #then s; else t;");
        Texts.faultyProgram(1, Texts.SMALL, "when #else: x then s; else t;");
        Texts.faultyProgram(1, Texts.SMALL, "when a #x then s; else t;");
        Texts.faultyProgram(1, Texts.SMALL, "when a: #then s; else t;");
        Texts.faultyProgram(1, Texts.SMALL, "when a: x #y then s; else t;");
        Texts.faultyProgram(1, Texts.SMALL, "when a: x #abcdefghi then s; else t;");
        Texts.faultyProgram(1, Texts.SMALL, "when a: * #/x then s; else t;");
        Texts.faultyProgram(1, Texts.SMALL, "when a: !x #/y then s; else t;");
        Texts.faultyProgram(1, Texts.SMALL, "when a: x and #and b: p then s; else t;");
        Texts.faultyProgram(1, Texts.SMALL, "when a: x and #then s; else t;");
        Texts.faultyProgram(1, Texts.SMALL, "when a: x #-> s; else t;");
        Texts.faultyProgram(1, Texts.SMALL, "when a: x then s #else t;");
        Texts.faultyProgram(1, Texts.SMALL, "when a: x then s;#");
        Texts.faultyProgram(2, Texts.SMALL, "else #abcdefghi;");
        Texts.faultyProgram(2, Texts.SMALL, "when #abcdefghi: x then s; else t;");
        Texts.faultyProgram(2, Texts.SMALL, "when a: #abcdefghi then s; else t;");
        Texts.faultyProgram(2, Texts.SMALL, "when a: x/#abcdefghi then s; else t;");
        Texts.faultyProgram(2, Texts.SMALL, "when a: x then #abcdefghi; else t;");
        Texts.faultyProgram(3, Texts.SMALL, "else #x;");
        Texts.faultyProgram(3, Texts.SMALL, "when #c: x then s; else t;");
        Texts.faultyProgram(3, Texts.SMALL, "when #o: s then s; else t;");
        Texts.faultyProgram(3, Texts.SMALL, "when #x: x then s; else t;");
        Texts.faultyProgram(3, Texts.SMALL, "when a: #p then s; else t;");
        Texts.faultyProgram(3, Texts.SMALL, "when a: !#p then s; else t;");
        Texts.faultyProgram(3, Texts.SMALL, "when a: x and b: #x then s; else t;");
        Texts.faultyProgram(3, Texts.SMALL, "when a: x then #y; else t;");
        Texts.faultyProgram(4, Texts.SMALL, "when b: p/q/#p then s; else t;");
        String whens = "when a:*then s;".repeat(40);
        Texts.faultyProgram(2, Texts.SMALL, whens + "#when a:*then s;else t;");
        Texts.faultyProgram(1, Texts.SMALL, whens + "#then");
        ExampleTables y = Texts.with(Texts.SMALL);
        Check.due("40 WHENS", 0, () -> Texts.program(y, 0, whens + "else t;"));
        Check.due("many TESTS", 1, () -> Texts.program(y, 0,
            "when a:*" + " and a:*".repeat(110) + " and b:!p then s;else t;"));
        Check.due("all of them hold", 0, () -> y.run(1, 1));
        Check.due("the last of them doesn't", 1, () -> y.run(1, 0));
    }

    private static void promise05Fault() {
        ExampleTables x = new ExampleTables();
        Check.due("fault before all", -1, x::fault);
        Check.due("a FAULT", -5, () -> Texts.table(x, "input a: x x;"));
        Check.due("its place", 11, x::fault);
        Check.illegal("nothing changes by an exception", () -> x.table(1));
        Check.noSuch("nor by this one", () -> x.program(0, 0));
        Check.due("the same place", 11, x::fault);
        Check.due("a TABLE", 0, () -> Texts.table(x, Texts.SMALL));
        Check.due("without", -1, x::fault);
        Check.due("a FAULT of a PROGRAM", -4, () -> Texts.program(x, 0, "  else x;"));
        Check.due("its place", 7, x::fault);
        Check.due("a PROGRAM", 0, () -> Texts.program(x, 0, "else s;"));
        Check.due("without", -1, x::fault);
    }

    private static void about(String name, String table, int... want) {
        ExampleTables x = Texts.with(table);
        for (int what = 0; what < want.length; what++) {
            int asked = what;
            Check.due("about " + name + " " + what, want[what], () -> x.about(0, asked));
        }
    }

    private static void promise06About() {
        about("small", Texts.SMALL, 2, 6, 2, 3, 0, 1, 0, 3, 0);
        about("open", Texts.OPEN, 3, 8, 2, 3, 5, 0, 1, 2, 3);
        about("tiny", Texts.TINY, 1, 2, 2, 0, 2, 0, 0, 0, 1);
        ExampleTables x = Texts.with(Texts.SMALL);
        Check.noSuch("about 9", () -> x.about(0, 9));
        Check.noSuch("about -1", () -> x.about(0, -1));
        Check.noSuch("about most", () -> x.about(0, Check.MOST));
        Check.noSuch("about no TABLE", () -> x.about(1, 0));
        Check.noSuch("about TABLE -1", () -> x.about(-1, 0));
        Check.noSuch("about TABLE most", () -> x.about(Check.MOST, 0));
        Check.noSuch("about TABLE least", () -> x.about(Check.LEAST, 0));
    }

    private static void promise07Answer() {
        ExampleTables x = Texts.with(Texts.SMALL, Texts.OPEN);
        int[] answers = {0, 1, 1, 0, 1, 1};
        int[] rows = {0, 1, 1, 2, 1, 1};
        int[] fits = {1, 1, 1, 1, 2, 2};
        for (int k = 0; k < 6; k++) {
            int number = k;
            Check.due("answer 0 of " + k, answers[k], () -> x.answer(0, number, 0));
            Check.due("answer 1 of " + k, rows[k], () -> x.answer(0, number, 1));
            Check.due("answer 2 of " + k, fits[k], () -> x.answer(0, number, 2));
        }
        Check.due("a HOLE's ANSWER", -1, () -> x.answer(1, 1, 0));
        Check.due("a HOLE's ROW", -1, () -> x.answer(1, 1, 1));
        Check.due("ROWS that fit a HOLE", 0, () -> x.answer(1, 1, 2));
        Check.noSuch("answer of CASE 6", () -> x.answer(0, 6, 0));
        Check.noSuch("answer of CASE -1", () -> x.answer(0, -1, 0));
        Check.noSuch("answer 3", () -> x.answer(0, 0, 3));
        Check.noSuch("answer -1", () -> x.answer(0, 0, -1));
        Check.noSuch("answer of no TABLE", () -> x.answer(2, 0, 0));
    }

    private static void promise08Value() {
        ExampleTables x = Texts.with(Texts.SMALL);
        for (int k = 0; k < 6; k++) {
            int number = k;
            Check.due("value of the first INPUT in " + k, k / 3, () -> x.value(0, number, 0));
            Check.due("value of the last INPUT in " + k, k % 3, () -> x.value(0, number, 1));
        }
        Check.noSuch("value of CASE 6", () -> x.value(0, 6, 0));
        Check.noSuch("value of CASE -1", () -> x.value(0, -1, 0));
        Check.noSuch("value of INPUT 2", () -> x.value(0, 0, 2));
        Check.noSuch("value of INPUT -1", () -> x.value(0, 0, -1));
        Check.noSuch("value of no TABLE", () -> x.value(1, 0, 0));
    }

    private static void promise09Hole() {
        ExampleTables x = Texts.with(Texts.SMALL, Texts.OPEN);
        for (int k = 0; k < 5; k++) {
            int i = k;
            Check.due("hole " + k, k + 1, () -> x.hole(1, i));
        }
        Check.noSuch("hole 5", () -> x.hole(1, 5));
        Check.noSuch("hole -1", () -> x.hole(1, -1));
        Check.noSuch("hole of none", () -> x.hole(0, 0));
        Check.noSuch("hole of no TABLE", () -> x.hole(2, 0));
    }

    private static void promise10Quarrel() {
        ExampleTables x = Texts.with("input a: x y z; input b: p q; output o: s t;"
            + " row x/y q -> s; row z * -> t; row !x * -> s; row * !p -> t; row y q -> t;");
        int[][] want = {{0, 3, 1}, {0, 4, 3}, {1, 2, 4}, {2, 3, 3}, {2, 4, 3}};
        Check.due("QUARRELS", want.length, () -> x.about(0, 5));
        for (int k = 0; k < want.length; k++) {
            for (int w = 0; w < 3; w++) {
                int i = k;
                int what = w;
                Check.due("quarrel " + k + " " + w, want[k][w], () -> x.quarrel(0, i, what));
            }
        }
        Check.noSuch("quarrel 5", () -> x.quarrel(0, 5, 0));
        Check.noSuch("quarrel -1", () -> x.quarrel(0, -1, 0));
        Check.noSuch("quarrel what 3", () -> x.quarrel(0, 0, 3));
        Check.noSuch("quarrel what -1", () -> x.quarrel(0, 0, -1));
        Check.noSuch("quarrel of no TABLE", () -> x.quarrel(1, 0, 0));
        ExampleTables y = Texts.with(Texts.TINY + "row*->s;row*->t;".repeat(20));
        Check.due("pairs of unlike VALUES among 40 ROWS", 400, () -> y.about(0, 5));
        Check.due("the last one's lesser", 38, () -> y.quarrel(0, 399, 0));
        Check.due("the last one's greater", 39, () -> y.quarrel(0, 399, 1));
    }

    private static void promise11Idle() {
        ExampleTables x = Texts.with("input a: x y z; output o: s t;"
            + " row x -> s; row x -> t; row y -> s; row y -> s; row x/y -> s; row z -> t;");
        // The first is missed in x, the 2nd fits nothing first, the 3rd and those behind stand in for one another.
        boolean[] want = {false, true, true, true, true, false};
        for (int k = 0; k < want.length; k++) {
            int row = k;
            Check.due("idle " + k, want[k], () -> x.idle(0, row));
        }
        Check.due("IDLE ROWS", 4, () -> x.about(0, 6));
        Check.noSuch("idle 6", () -> x.idle(0, 6));
        Check.noSuch("idle -1", () -> x.idle(0, -1));
        Check.noSuch("idle of no TABLE", () -> x.idle(1, 0));
    }

    private static void promise12Term() {
        ExampleTables x = Texts.with(Texts.SMALL, Texts.OPEN);
        int[][] want = {{0, -1, 0}, {1, -1, 1}, {1, -1, 2}};
        for (int k = 0; k < want.length; k++) {
            for (int input = -1; input < 2; input++) {
                int i = k;
                int asked = input;
                Check.due("term " + k + " " + input, want[k][input + 1], () -> x.term(0, i, asked));
            }
        }
        Check.noSuch("term 3", () -> x.term(0, 3, 0));
        Check.noSuch("term -1", () -> x.term(0, -1, -1));
        Check.noSuch("term of INPUT 2", () -> x.term(0, 0, 2));
        Check.noSuch("term of INPUT -2", () -> x.term(0, 0, -2));
        Check.noSuch("term of no TABLE", () -> x.term(2, 0, 0));
        // HOLES don't matter: each VALUE is told by one INPUT alone.
        Check.due("no: a is 0", 0, () -> x.term(1, 0, 0));
        Check.due("no: b is any", -1, () -> x.term(1, 0, 1));
        Check.due("yes: a is 1", 1, () -> x.term(1, 1, 0));
        Check.due("yes: c is any", -1, () -> x.term(1, 1, 2));
    }

    private static void promise12Order() {
        // As many CASES, as many INPUTS: the first as a row, any behind the VALUES.
        Texts.rule("s if a is y and b is q\nt if a is x\nt if b is p\n",
            "input a: x y; input b: p q; output o: s t; row y q -> s; row * * -> t;");
        // The first CASE alone is held already by the first TERM: the second is chosen for its one new CASE.
        Texts.rule("s if a is x\ns if b is p\nt if a is y and b is q\n",
            "input a: x y; input b: p q; output o: s t; row y q -> t; row * * -> s;");
        // The fewest INPUTS, where HOLES give room for several TERMS.
        Texts.rule("s if a is x\nt if a is y\n",
            "input a: x y; input b: p q; output o: s t; row x p -> s; row y q -> t;");
        Texts.rule("s if always\n", "input a: x y; input b: p q; output o: s t; row y q -> s;");
        Texts.rule("t if always\n", "input a: x y; input b: p q; output o: s t; row * * -> t; row x p -> s;");
        Texts.rule("", "input a: x y; input b: p q; output o: s t;");
    }

    private static void promise13Offered() {
        ExampleTables x = Texts.with(Texts.SMALL, Texts.OPEN, Texts.TINY);
        int[][] want = {{2, 0, 1, -1}, {2, 1, 0, -1}, {2, 0, -1, 1}};
        for (int k = 0; k < want.length; k++) {
            for (int input = -1; input < 3; input++) {
                int i = k;
                int asked = input;
                Check.due("offered " + k + " " + input, want[k][input + 1], () -> x.offered(1, i, asked));
            }
        }
        Check.due("offered of no ROWS", -1, () -> x.offered(2, 0, 0));
        Check.due("HOLES of that", 2, () -> x.offered(2, 0, -1));
        Check.noSuch("offered 3", () -> x.offered(1, 3, 0));
        Check.noSuch("offered 3 NONE", () -> x.offered(1, 3, -1));
        Check.noSuch("offered -1", () -> x.offered(1, -1, 0));
        Check.noSuch("offered of INPUT 3", () -> x.offered(1, 0, 3));
        Check.noSuch("offered of INPUT -2", () -> x.offered(1, 0, -2));
        Check.noSuch("offered of none", () -> x.offered(0, 0, -1));
        Check.noSuch("offered of no TABLE", () -> x.offered(3, 0, 0));
    }

    /** CASES of which each has another ANSWER than its neighbours: no TERM holds for two. */
    private static String chequered(String lastValues, String outcomes) {
        StringBuilder text = new StringBuilder("input aaaaaaaa:a1 a2 a3;input bbbbbbbb:b1 b2 b3;input cccccccc:"
            + lastValues + ";output o:" + outcomes + ";");
        String[] words = outcomes.split(" ");
        String last = lastValues.endsWith("c4") ? "c1/c4" : "c1";
        for (int a = 0; a < 3; a++) {
            for (int b = 0; b < 3; b++) {
                for (int c = 0; c < 3; c++) {
                    text.append("row a").append(a + 1).append(" b").append(b + 1).append(" ")
                        .append(c == 0 ? last : "c" + (c + 1)).append("->").append(words[(a + b + c) % 3]).append(";");
                }
            }
        }
        return text.toString();
    }

    private static void promise14Tell() {
        ExampleTables x = Texts.with(Texts.SMALL, Texts.TINY);
        Check.due("tell", 36, () -> x.tell(0));
        Check.due("told", "s if b is p\nt if b is q\nt if b is r\n", () -> Texts.told(x));
        Check.noSuch("tell of no TABLE", () -> x.tell(2));
        Check.noSuch("tell of TABLE -1", () -> x.tell(-1));
        Check.due("OUT is as before", 36, () -> x.count(3));
        Check.due("tell of no ROWS", 0, () -> x.tell(1));
        Check.due("OUT is empty", 0, () -> x.count(3));

        // 27 TERMS of 59 bytes: under 2,000 bytes all are kept.
        ExampleTables y = Texts.with(chequered("c1 c2 c3", "x1 x2 x3"));
        Check.due("TERMS", 27, () -> y.about(0, 7));
        Check.due("tell", 27 * 59, () -> y.tell(0));
        Check.due("kept", 27 * 59, () -> y.count(3));
    }

    private static void promise15Told() {
        ExampleTables x = Texts.with(Texts.SMALL);
        Check.noSuch("told before tell", () -> x.told(0));
        x.tell(0);
        Check.due("told 0", (int) 's', () -> x.told(0));
        Check.due("told 35", 10, () -> x.told(35));
        Check.noSuch("told 36", () -> x.told(36));
        Check.noSuch("told -1", () -> x.told(-1));
        Check.noSuch("told most", () -> x.told(Check.MOST));
        Check.noSuch("told least", () -> x.told(Check.LEAST));

        // 36 TERMS of 58 bytes: the first 2,000 are kept.
        ExampleTables y = Texts.with(chequered("c1 c2 c3 c4", "x y z"));
        Check.due("TERMS", 36, () -> y.about(0, 7));
        Check.due("tell counts all", 36 * 58, () -> y.tell(0));
        Check.due("2,000 are kept", 2000, () -> y.count(3));
        // 2,000 is 34 TERMS and 28 bytes.
        String line = "z if aaaaaaaa is a3 and bbbb";
        for (int k = 0; k < line.length(); k++) {
            int at = 34 * 58 + k;
            Check.due("told " + at, (int) line.charAt(k), () -> y.told(at));
        }
        Check.noSuch("told 2,000", () -> y.told(2000));
    }

    private static void promise16Run() {
        ExampleTables x = Texts.with(Texts.SMALL, Texts.TINY);
        Texts.program(x, 0, "when a: y and b: !q then s; when b: p/r and b: !p then t; else t;");
        Texts.program(x, 1, "when a: x and a: y then s; else t;");
        Texts.program(x, 0, "when a: * then s; when a: x then t; else t;");
        int[] want = {1, 1, 1, 0, 1, 0};
        for (int k = 0; k < 6; k++) {
            int number = k;
            Check.due("run 0 in " + k, want[k], () -> x.run(0, number));
            Check.due("run 2 in " + k, 0, () -> x.run(2, number));
        }
        Check.due("both TESTS can't hold: the second fails", 1, () -> x.run(1, 0));
        Check.due("both TESTS can't hold: the first fails", 1, () -> x.run(1, 1));
        Check.noSuch("run in CASE 2", () -> x.run(1, 2));
        Check.noSuch("run in CASE -1", () -> x.run(1, -1));
        Check.noSuch("run of no PROGRAM", () -> x.run(3, 0));
        Check.noSuch("run of PROGRAM -1", () -> x.run(-1, 0));
        Check.noSuch("run of PROGRAM most", () -> x.run(Check.MOST, 0));
    }

    private static ExampleTables failingOnes() {
        ExampleTables x = Texts.with(Texts.SMALL, Texts.OPEN);
        Texts.program(x, 0, "when b: p then s; else t;");
        Texts.program(x, 0, "when a: y and b: !q then s; else t;");
        Texts.program(x, 1, "else no;");
        return x;
    }

    private static void promise17Fails() {
        ExampleTables x = failingOnes();
        int[][] want = {{0, 0, 0, 0}, {2, 1, 1, 0}, {2, 2, 0, 0}};
        for (int k = 0; k < 3; k++) {
            for (int row = -1; row < 3; row++) {
                int program = k;
                int asked = row;
                Check.due("fails " + k + " " + row, want[k][row + 1], () -> x.fails(program, asked));
            }
        }
        Check.noSuch("fails ROW 3", () -> x.fails(0, 3));
        Check.noSuch("fails ROW -2", () -> x.fails(0, -2));
        Check.noSuch("fails of no PROGRAM", () -> x.fails(3, -1));
        Check.noSuch("fails of PROGRAM -1", () -> x.fails(-1, -1));
    }

    private static void promise18Failing() {
        ExampleTables x = failingOnes();
        int[][] want = {{-1, -1, -1, -1}, {0, 0, 5, -1}, {6, 6, -1, -1}};
        for (int k = 0; k < 3; k++) {
            for (int row = -1; row < 3; row++) {
                int program = k;
                int asked = row;
                Check.due("failing " + k + " " + row, want[k][row + 1], () -> x.failing(program, asked));
            }
        }
        Check.noSuch("failing ROW 3", () -> x.failing(0, 3));
        Check.noSuch("failing ROW -2", () -> x.failing(0, -2));
        Check.noSuch("failing of no PROGRAM", () -> x.failing(3, -1));
        Check.noSuch("failing of PROGRAM -1", () -> x.failing(-1, -1));
    }

    private static void promise19Changed() {
        ExampleTables x = Texts.with(Texts.OPEN, Texts.OPEN);
        Texts.program(x, 0, "else no;");
        Texts.program(x, 0, "when a: 1 then yes; else no;");
        Texts.program(x, 1, "else no;");
        int[] want = {4, 2, 4};
        for (int k = 0; k < 3; k++) {
            int what = k;
            Check.due("changed " + k, want[k], () -> x.changed(0, 1, what));
            Check.due("changed back " + k, want[k], () -> x.changed(1, 0, what));
            Check.due("changed of one " + k, k == 2 ? -1 : 0, () -> x.changed(1, 1, what));
            Check.illegal("changed of two TABLES, though alike " + k, () -> x.changed(0, 2, what));
        }
        Check.noSuch("changed 3", () -> x.changed(0, 1, 3));
        Check.noSuch("changed -1", () -> x.changed(0, 1, -1));
        Check.noSuch("changed 3 of two TABLES", () -> x.changed(0, 2, 3));
        Check.noSuch("changed of no PROGRAM", () -> x.changed(3, 0, 0));
        Check.noSuch("changed to no PROGRAM", () -> x.changed(0, 3, 0));
        Check.noSuch("changed of PROGRAM -1", () -> x.changed(-1, 0, 0));
        Check.noSuch("changed to PROGRAM -1", () -> x.changed(0, -1, 0));
    }

    private static void promise20Count() {
        ExampleTables x = Texts.with(Texts.SMALL, Texts.OPEN);
        Texts.program(x, 0, "else s;");
        Texts.feed(x, "else yes;");
        x.tell(1);
        int[] want = {2, 1, 20, 27};
        for (int k = 0; k < 4; k++) {
            int what = k;
            Check.due("count " + k, want[k], () -> x.count(what));
        }
        Check.noSuch("count 4", () -> x.count(4));
        Check.noSuch("count -1", () -> x.count(-1));
        Check.noSuch("count most", () -> x.count(Check.MOST));
    }
}
