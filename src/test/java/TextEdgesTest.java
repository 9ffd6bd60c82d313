/** The document's "Terms", sentence by sentence: TOKENS, grammar, FAULTS with their places, and their edges. */
public final class TextEdgesTest {
    private static final String HEAD = "input a: x y; output o: s t; ";
    private static final String TWO = "input a: x y; input b: p q; output o: s t; ";
    private static final String[] KEYWORDS = {"input", "output", "row", "when", "and", "then", "else"};
    private static final String[] SIGNS = {"*", "/", "!", ";", ":", "->"};
    private static final String[] NO_TOKENS = {"-", ">", "@", "A", "-x", "\t", "\r", "\u0000", "\u00ff"};
    private static final String NINE = "abcdefghi";
    /** Places where a word is told for the first time, in a TABLE's text. */
    private static final String[] NEW_WORDS = {"input ", "input a: ", "input a: x ", "input a: x y ", "input a: x y; input ",
        "input a: x y; output ", "input a: x y; output o: ", "input a: x y; output o: s ", "input a: x y; output o: s t "};
    /** Places where a word must have been told, in a TABLE's text. */
    private static final String[] OLD_WORDS = {HEAD + "row ", HEAD + "row !", HEAD + "row x/", HEAD + "row x -> "};
    /** The same in a PROGRAM's text. */
    private static final String[] WORDS_OF_PROGRAMS = {"when ", "when a: ", "when a: !", "when a: x/", "when a: x and ",
        "when a: x and a: ", "when a: x then ", "else ", "when a: x then s; else "};

    private TextEdgesTest() {
    }

    public static void main(String[] args) {
        textsOf1000Bytes();
        wordSigns();
        longestRow();
        wordsOf8();
        signs();
        blanks();
        keywords();
        grammarOfTables();
        grammarOfRows();
        grammarOfPrograms();
        anyNumberOfTimes();
        firstAlongTheText();
        firstByte();
        noTokens();
        endsTooSoon();
        endsOnTheTape();
        wordsOf9();
        sixthInput();
        seventhValue();
        moreThan400Cases();
        row41();
        when41();
        notTold();
        nameToldAlready();
        valueToldAlready();
        valueTwiceInCell();
        theLeast();
        Check.end();
    }

    private static void good(String text) {
        ExampleTables x = Texts.with(text);
        Check.due("no FAULT of '" + text + "'", -1, x::fault);
    }

    private static void cases(int want, String text) {
        ExampleTables x = Texts.with(text);
        Check.due("CASES of '" + text + "'", want, () -> x.about(0, 1));
    }

    private static void goodProgram(String of, String text) {
        ExampleTables x = Texts.withPrograms(of, text);
        Check.due("no FAULT of '" + text + "'", -1, x::fault);
    }

    private static void faultyProgram(int kind, String marked) {
        Texts.faultyProgram(kind, HEAD, marked);
    }

    private static String filled(String text, int length) {
        return text + " ".repeat(length - text.length());
    }

    private static void textsOf1000Bytes() {
        Check.sentence("TEXTS, at most 1000 bytes");
        good(filled(HEAD, 999));
        good(filled(HEAD, 1000));
        good(filled("", 1000 - HEAD.length()) + HEAD);
        good(filled(HEAD + "row x -> s", 999) + ";");
        goodProgram(HEAD, filled("else s", 999) + ";");
        Texts.faulty(1, filled(HEAD + "row x -> s", 1000) + "#");
        Texts.faulty(1, filled(HEAD, 999) + "#;");
        faultyProgram(1, filled("else s", 1000) + "#");
        faultyProgram(1, filled("else s;", 999) + "#s");
    }

    private static boolean isWordSign(int sign) {
        return "abcdefghijklmnopqrstuvwxyz0123456789".indexOf(sign) >= 0;
    }

    private static void wordSigns() {
        Check.sentence("words (a .. z and 0 .. 9");
        for (int sign = 0; sign < 256; sign++) {
            String text = "input a: q" + (char) sign + "q w; output o: s t;";
            if (isWordSign(sign)) {
                cases(2, text);
            } else if (sign == 32 || sign == 10) {
                Texts.faulty(4, "input a: q" + (char) sign + "#q w; output o: s t;");
            } else {
                ExampleTables x = new ExampleTables();
                Check.due("byte " + sign, -2, () -> Texts.table(x, text));
                Check.due("place of byte " + sign, 10, x::fault);
            }
        }
        good("input az09: a z 0 9; output 0za9: 00 a0 0a zz; row a/9 -> 0a;");
    }

    private static void longestRow() {
        Check.sentence("the longest row");
        Texts.faulty(1, "#inputa: x y;");
        Texts.faulty(1, "#input1 a: x y;");
        Texts.faulty(1, "#1input a: x y;");
        Texts.faulty(1, HEAD + "#rowx -> s;");
        Texts.faulty(3, HEAD + "row #xy -> s;");
        Texts.faulty(3, HEAD + "row x -> #st;");
        faultyProgram(1, "#elses;");
        faultyProgram(1, "when a: x #thens; else t;");
        faultyProgram(1, "when a: x #anda: y then s; else t;");
        cases(3, "input a: x y xy; output o: s t;");
    }

    private static void wordsOf8() {
        Check.sentence("at most 8");
        String text = "input abcdefgh: 01234567 01234568; output abcdefgi: zzzzzzzy zzzzzzzz;"
            + " row 01234567 -> zzzzzzzz; row !01234567 -> zzzzzzzy;";
        ExampleTables x = Texts.withPrograms(text,
            "when abcdefgh: 01234567/01234568 and abcdefgh: !01234567 then zzzzzzzz; else zzzzzzzy;");
        Check.row("answers", k -> x.answer(0, k, 0), 1, 0);
        Check.row("run", k -> x.run(0, k), 0, 1);
        Texts.rule("zzzzzzzy if abcdefgh is 01234568\nzzzzzzzz if abcdefgh is 01234567\n", text);
        // Words that begin or end alike are unlike.
        cases(6, "input a: a aa aaa aaaaaaa aaaaaaaa b; output o: s t;");
        cases(6, "input a: a ba bba bbbbbbba ab bbbbbbab; output o: s t;");
    }

    private static void signs() {
        Check.sentence("signs * / ! ; : and ->");
        good("input a:x y;output o:s t;row*->s;row!x->t;row x/y->s;");
        for (String sign : new String[] {"-", ">", "--", "- >", "-\n>", "=>", ">-"}) {
            Texts.faulty(1, HEAD + "row x #" + sign + " s;");
        }
        Texts.faulty(1, HEAD + "row x #-");
        Texts.faulty(1, HEAD + "row x ->#> s;");
        Texts.faulty(1, HEAD + "row x -> #-> s;");
        for (String sign : new String[] {",", ".", "=", "?", "_", "|", "+", "(", ")", "\"", "'", "[", "]"}) {
            Texts.faulty(1, HEAD + "#" + sign);
            faultyProgram(1, "#" + sign + " else s;");
        }
    }

    private static void blanks() {
        Check.sentence("blanks (32, 10) between them count for nothing");
        String spread = "\n input \n a\n:\n x \n y \n; output\no :\ns\nt ; \n\n row\n! x\n-> s ; row x\n/ y -> t\n; \n";
        ExampleTables x = Texts.with(spread);
        Check.due("VALUES", 2, () -> x.about(0, 1));
        Check.due("ROWS", 2, () -> x.about(0, 3));
        goodProgram(HEAD, " when\na : ! x\nand a: * then\ns ;\n\n else t\n;\n ");
        for (char sign : new char[] {0, 9, 11, 12, 13, 31, 127, 133, 160}) {
            Texts.faulty(1, "#" + sign + "input a: x y;");
            Texts.faulty(1, "input a: x y;  \n#" + sign + "output o: s t;");
            Texts.faulty(1, HEAD + "#" + sign);
            faultyProgram(1, "else s; #" + sign);
        }
    }

    private static void keywords() {
        Check.sentence("KEYWORDS (no NAMES, VALUES): input output row when and then else");
        for (String keyword : KEYWORDS) {
            for (String place : NEW_WORDS) {
                Texts.faulty(1, place + "#" + keyword + " ;");
            }
            for (String place : OLD_WORDS) {
                Texts.faulty(1, place + "#" + keyword + " ;");
            }
            for (String place : WORDS_OF_PROGRAMS) {
                faultyProgram(1, place + "#" + keyword + " ;");
            }
            // One sign more or less, and it is a word as others are.
            String more = keyword + "s";
            String less = keyword.substring(0, keyword.length() - 1);
            good("input " + more + ": " + less + " y; output " + less + ": " + more + " t; row " + less + " -> " + more + ";");
        }
        good("input if: is always; output not: or case; row is -> or;");
    }

    /** What can stand behind a start, of "word", "end", KEYWORDS and signs; all else is FAULT 1 at its place. */
    private static void next(boolean program, String start, String... can) {
        tryNext(program, start, "word", "x", can);
        tryNext(program, start, "word", NINE, can);
        tryNext(program, start, "end", "", can);
        for (String token : KEYWORDS) {
            tryNext(program, start, token, token, can);
        }
        for (String token : SIGNS) {
            tryNext(program, start, token, token, can);
        }
        for (String token : NO_TOKENS) {
            tryNext(program, start, "none", token, can);
        }
    }

    private static void tryNext(boolean program, String start, String kind, String token, String... can) {
        ExampleTables x = Texts.with(TWO);
        String text = start + " " + token;
        int answer = program ? Texts.program(x, 0, text) : Texts.table(x, text);
        boolean refusedHere = answer == -2 && x.fault() == start.length() + 1;
        boolean expected = !java.util.Arrays.asList(can).contains(kind);
        Check.due("'" + token + "' can't stand behind '" + start + "'", expected, () -> refusedHere);
        if (!expected && kind.equals("end")) {
            Check.due("'" + start + "' is whole", true, () -> answer >= 0);
        }
        if (!expected && token.equals(NINE)) {
            Check.due("'" + token + "' is too much behind '" + start + "'", -3, () -> answer);
        }
    }

    private static void grammarOfTables() {
        Check.sentence("TABLE: INPUT INPUT* OUTPUT ROW*");
        next(false, "", "input");
        next(false, "input a: x y;", "input", "output");
        next(false, "input a: x y; input b: p q;", "input", "output");
        next(false, Texts.WIDE.substring(0, Texts.WIDE.indexOf("output")), "input", "output");
        next(false, HEAD, "row", "end");
        next(false, HEAD + "row x -> s;", "row", "end");
        next(false, HEAD + "row x -> s; row * -> t;", "row", "end");
        Check.sentence("INPUT: 'input' NAME ':' VALUE VALUE VALUE* ';'");
        next(false, "input", "word");
        next(false, "input a", ":");
        next(false, "input a:", "word");
        next(false, "input a: x", "word");
        next(false, "input a: x y", "word", ";");
        next(false, "input a: x y z", "word", ";");
        next(false, "input a: 1 2 3 4 5 6", "word", ";");
        next(false, "input a: x y; input", "word");
        Check.sentence("OUTPUT: 'output' NAME ':' VALUE VALUE VALUE* ';'");
        next(false, "input a: x y; output", "word");
        next(false, "input a: x y; output o", ":");
        next(false, "input a: x y; output o:", "word");
        next(false, "input a: x y; output o: s", "word");
        next(false, "input a: x y; output o: s t", "word", ";");
        next(false, "input a: x y; output o: s t u", "word", ";");
        next(false, "input a: x y; output o: 1 2 3 4 5 6", "word", ";");
    }

    private static void grammarOfRows() {
        Check.sentence("ROW: 'row' CELL CELL* '->' VALUE ';' - as many CELLS as INPUTS, in their order");
        next(false, HEAD + "row", "word", "*", "!");
        next(false, HEAD + "row x ->", "word");
        next(false, HEAD + "row x -> s", ";");
        Texts.faulty(1, TWO + "row x #-> s;");
        Texts.faulty(1, TWO + "row #-> s;");
        Texts.faulty(1, TWO + "row x p #q -> s;");
        Texts.faulty(1, TWO + "row x p #* -> s;");
        Texts.faulty(1, TWO + "row x p #!q -> s;");
        Texts.faulty(3, TWO + "row #p x -> s;");
        Texts.faulty(3, TWO + "row x #y -> s;");
        good(TWO + "row x p -> s;");
        good(Texts.WIDE + "row 1 5 4 2 1 -> 2; row * * * * * -> 1; row !1 !5 !4 !2 !1 -> 1;");
        Texts.faulty(1, Texts.WIDE + "row * * * * #-> 2;");
        Texts.faulty(1, Texts.WIDE + "row * * * * * #* -> 2;");
        Check.sentence("CELL: '*' | '!' VALUE | VALUE ('/' VALUE)*");
        next(false, HEAD + "row *", "->");
        next(false, HEAD + "row !", "word");
        next(false, HEAD + "row !x", "->");
        next(false, HEAD + "row y", "/", "->");
        next(false, HEAD + "row y/", "word");
        next(false, HEAD + "row y/x", "/", "->");
        next(false, TWO + "row *", "word", "*", "!");
        next(false, TWO + "row !x", "word", "*", "!");
        next(false, TWO + "row x", "word", "*", "!", "/");
        next(false, TWO + "row x p", "/", "->");
        good("input a: 1 2 3 4 5 6; output o: s t; row 6/5/4/3/2/1 -> s; row 1/6 -> t; row !6 -> s;");
    }

    private static void grammarOfPrograms() {
        Check.sentence("PROGRAM (of a TABLE): WHEN* 'else' VALUE ';'");
        next(true, "", "when", "else");
        next(true, "else", "word");
        next(true, "else s", ";");
        next(true, "else s;", "end");
        next(true, "when a: x then s;", "when", "else");
        next(true, "when a: x then s; when b: * then t;", "when", "else");
        next(true, "when a: x then s; else t;", "end");
        Check.sentence("WHEN: 'when' TEST ('and' TEST)* 'then' VALUE ';'");
        next(true, "when", "word");
        next(true, "when a: x and", "word");
        next(true, "when a: x and b: p and", "word");
        next(true, "when a: x then", "word");
        next(true, "when a: x then s", ";");
        Check.sentence("TEST: NAME ':' CELL");
        next(true, "when a", ":");
        next(true, "when a: x and b", ":");
        next(true, "when a:", "word", "*", "!");
        next(true, "when a: *", "and", "then");
        next(true, "when a: !", "word");
        next(true, "when a: !y", "and", "then");
        next(true, "when a: y", "/", "and", "then");
        next(true, "when a: y/", "word");
        next(true, "when a: y/x", "/", "and", "then");
        next(true, "when a: x and b: p", "/", "and", "then");
        // TESTS come in any order, of one INPUT several times, or of none of them all.
        goodProgram(TWO, "when b: p and a: x and b: p/q and a: !x then s; when b: !p then t; else s;");
    }

    private static void anyNumberOfTimes() {
        Check.sentence("* any number of times");
        // TESTS alone have no bound but the text's.
        String last = "and a:y then t;else s;";
        String tests = "when a:*" + "and a:*".repeat(138);
        String text = filled(tests, 1000 - last.length()) + last;
        ExampleTables x = Texts.withPrograms(HEAD, text, tests + "then t;else s;", "when a:x then t;else s;");
        Check.row("140 TESTS", k -> x.run(0, k), 0, 1);
        Check.row("139 TESTS", k -> x.run(1, k), 1, 1);
        Check.row("1 TEST", k -> x.run(2, k), 1, 0);
        faultyProgram(1, filled(tests, 999) + "#*");
    }

    private static void firstAlongTheText() {
        Check.sentence("FAULTS, the first along the text");
        String[] starts = {HEAD + "row x #* ", HEAD + "row #abcdefghi ", HEAD + "row #z ", HEAD + "row x/#x "};
        String[] ends = {"@", "* -> s;", "abcdefghi -> s;", "-> z;", "-> s; row y/y -> s;"};
        for (int kind = 1; kind <= 4; kind++) {
            for (String end : ends) {
                Texts.faulty(kind, starts[kind - 1] + end);
            }
        }
        Texts.faulty(4, "input a: x #x; output abcdefghi: s;");
        Texts.faulty(3, HEAD + "row #z -> z; row x/x -> abcdefghi; @");
        faultyProgram(4, "when a: x/#x then z; else abcdefghi @");
        faultyProgram(3, "when #b: z then abcdefghi; else");
        faultyProgram(2, "when #abcdefghi z");
    }

    private static void firstByte() {
        Check.sentence("at a TOKEN's first byte");
        Texts.faulty(2, "input a: x \n\n  #abcdefghijklmnopqrstuvwxyz;");
        Texts.faulty(4, "input abc: x y; input \n #abc: x y;");
        Texts.faulty(3, HEAD + "row x/  #zzz -> s;");
        Texts.faulty(1, HEAD + "row x    #output -> s;");
        Texts.faulty(1, "input a: x y; output o: s t   #->");
        faultyProgram(3, "\n\nelse\n\n#sss;");
    }

    private static void noTokens() {
        Check.sentence("1 a TOKEN that can't stand there, or is none");
        for (int sign = 0; sign < 256; sign++) {
            if (sign == 32 || sign == 10) {
                good(HEAD + (char) sign);
                goodProgram(HEAD, "else s;" + (char) sign);
            } else {
                ExampleTables x = Texts.with(HEAD);
                String text = HEAD + (char) sign;
                String program = "else s;" + (char) sign;
                Check.due("byte " + sign + " behind a TABLE", -2, () -> Texts.table(x, text));
                Check.due("its place", HEAD.length(), x::fault);
                Check.due("byte " + sign + " behind a PROGRAM", -2, () -> Texts.program(x, 0, program));
                Check.due("its place", 7, x::fault);
            }
        }
    }

    private static void endsTooSoon() {
        Check.sentence("(the text's length where it ends too soon)");
        Texts.faulty(1, "#");
        Texts.faulty(1, " #");
        Texts.faulty(1, "\n\n\n#");
        for (String place : NEW_WORDS) {
            Texts.faulty(1, place + "#");
            Texts.faulty(1, place + "  \n#");
        }
        for (String place : OLD_WORDS) {
            Texts.faulty(1, place + "#");
        }
        Texts.faulty(1, "input#");
        Texts.faulty(1, "input a: x y;#");
        Texts.faulty(1, HEAD + "row x -> s#");
        Texts.faulty(1, HEAD + "row x ->#");
        Texts.faulty(1, HEAD + "row x#");
        Texts.faulty(1, HEAD + "row#");
        faultyProgram(1, "#");
        faultyProgram(1, "   #");
        for (String place : WORDS_OF_PROGRAMS) {
            faultyProgram(1, place + "#");
        }
        faultyProgram(1, "else s#");
        faultyProgram(1, "when a: x then s;#");
    }

    /** A text that ends at '#', though the tape goes on behind it. */
    private static void cut(int kind, int place, String marked) {
        ExampleTables x = new ExampleTables();
        int n = marked.indexOf('#');
        Texts.feed(x, marked.substring(0, n) + marked.substring(n + 1));
        Check.due("table of the start of '" + marked + "'", kind == 0 ? 0 : -1 - kind, () -> x.table(n));
        Check.due("fault of the start of '" + marked + "'", place, x::fault);
    }

    private static void endsOnTheTape() {
        Check.sentence("(the text's length where it ends too soon), though the tape has more");
        cut(0, -1, HEAD + "#row x -> s;");
        cut(1, HEAD.length() + 10, HEAD + "row x -> s#;");
        cut(1, 0, "#" + HEAD);
        // What n cuts is no longer what it was: a sign, a KEYWORD, a word.
        cut(1, HEAD.length() + 6, HEAD + "row x -#> s;");
        cut(1, HEAD.length(), HEAD + "ro#w x -> s;");
        cut(1, 14, "input a: x y; outpu#t o: s t;");
        cut(4, 11, "input a: x x#y; output o: s t;");
        cut(1, 14, "input a: x abc#d; output o: s t;");
        cut(1, 17, "input a: abcdefgh#i; output o: s t;");
        cut(3, HEAD.length() + 4, "input a: x y; output o: s t; row xx#x -> s;");
        // Nor does what an earlier text left there count.
        ExampleTables x = new ExampleTables();
        Check.due("an earlier text", 0, () -> Texts.table(x, HEAD + "row x -> s;"));
        x.feed(0x696e7075, 0x7420613a, 0x20782079, 0x3b206f75, 0x74707574);
        Check.due("goes not on behind the tape", -2, () -> x.table(20));
        Check.due("but ends", 20, x::fault);
    }

    private static void wordsOf9() {
        Check.sentence("2 one that can, but is too much: a word of 9 signs or more");
        for (String word : new String[] {NINE, "012345678", "inputinput", "elseelsee", "a".repeat(256 + 1), "z".repeat(800)}) {
            for (String place : NEW_WORDS) {
                Texts.faulty(2, place + "#" + word);
            }
            for (String place : OLD_WORDS) {
                Texts.faulty(2, place + "#" + word + " ;");
            }
            for (String place : WORDS_OF_PROGRAMS) {
                faultyProgram(2, place + "#" + word + " ;");
            }
            Texts.faulty(1, "#" + word);
            Texts.faulty(1, "input a #" + word);
            Texts.faulty(1, HEAD + "#" + word);
            faultyProgram(1, "#" + word);
            faultyProgram(1, "else s #" + word);
        }
        // The first or the last eight signs of it don't make it a word that was told.
        String told = "input abcdefgh: x y; output o: s t; ";
        Texts.faulty(2, "input abcdefgh: x y; input #abcdefghi: x y;");
        Texts.faultyProgram(2, told, "when #abcdefghi: x then s; else t;");
        Texts.faultyProgram(2, told, "when #zabcdefgh: x then s; else t;");
    }

    private static void sixthInput() {
        Check.sentence("the 'input' of the 6th INPUT");
        String four = "input a: 1 2; input b: 1 2; input c: 1 2; input d: 1 2; ";
        String five = four + "input e: 1 2; ";
        good(four + "output o: s t;");
        cases(32, five + "output o: s t;");
        Texts.faulty(2, five + "#input f: 1 2; output o: s t;");
        Texts.faulty(2, five + "#input");
        Texts.faulty(2, five + "#input a: 1 1;");
        Texts.faulty(1, five + "#inputs f: 1 2;");
        Texts.faulty(1, five + "#row");
        Texts.faulty(4, four + "input #d: 1 2;");
    }

    private static void seventhValue() {
        Check.sentence("the VALUE of its 7th");
        cases(5, "input a: 1 2 3 4 5; output o: s t;");
        cases(6, "input a: 1 2 3 4 5 6; output o: s t;");
        Texts.faulty(2, "input a: 1 2 3 4 5 6 #7; output o: s t;");
        Texts.faulty(2, "input a: 1 2 3 4 5 6 #7 8; output o: s t;");
        Texts.faulty(2, "input a: x y; input b: 1 2 3 4 5 6 #7; output o: s t;");
        Texts.faulty(1, "input a: 1 2 3 4 5 6#");
        Check.sentence("of OUTPUT's 7th");
        ExampleTables x = Texts.with("input a: x y; output o: 1 2 3 4 5; row x -> 5;",
            "input a: x y; output o: 1 2 3 4 5 6; row x -> 6;");
        Check.row("VALUES of OUTPUT", k -> x.about(k, 2), 5, 6);
        Check.row("ANSWERS by the last", k -> x.answer(k, 0, 0), 4, 5);
        Texts.faulty(2, "input a: x y; output o: 1 2 3 4 5 6 #7; row x -> 6;");
        Texts.faulty(2, "input a: x y; output o: 1 2 3 4 5 6 #7");
    }

    private static void moreThan400Cases() {
        Check.sentence("the VALUE by which there would be more than 400 CASES");
        cases(400, Texts.WIDE);
        cases(400, "input a: 1 2 3 4; input b: 1 2 3 4; input c: 1 2 3 4 5; input d: 1 2 3 4 5; output o: 1 2 3 4 5 6;");
        cases(384, "input a: 1 2 3 4; input b: 1 2 3 4; input c: 1 2 3 4; input d: 1 2 3 4 5 6; output o: s t;");
        // There would be 405 (the least above 400 that VALUES can make), 432, 480, 800, 500, 432, 512.
        Texts.faulty(2, "input a:1 2 3 4 5;input b:1 2 3;input c:1 2 3;input d:1 2 3;input e:1 2 #3;output o:1 2;");
        Texts.faulty(2, "input a:1 2 3 4 5 6;input b:1 2 3 4 5 6;input c:1 2 3 4 5 6;input d:1 #2;output o:1 2;");
        Texts.faulty(2, "input a:1 2 3 4;input b:1 2 3 4;input c:1 2 3 4 5;input d:1 2 3 4 5 #6;output o:1 2;");
        Texts.faulty(2, "input a:1 2 3 4;input b:1 2 3 4;input c:1 2 3 4 5;input d:1 2 3 4 5;input e:1 #2;output o:1 2;");
        Texts.faulty(2, "input a:1 2 3 4 5;input b:1 2 3 4 5;input c:1 2 3 4;input d:1 2 3 4 #5;");
        Texts.faulty(2, "input a:1 2 3 4 5 6;input b:1 2 3 4 5 6;input c:1 2 3 4 5 6;input d:1 #2 3 4 5 6 7;");
        Texts.faulty(2, "input a:1 2 3 4;input b:1 2 3 4;input c:1 2 3 4;input d:1 2;input e:1 2 3 #4;");
        // The one VALUE makes no CASES more; only the next does.
        Texts.faulty(1, "input a:1 2 3 4;input b:1 2 3 4;input c:1 2 3 4 5;input d:1 2 3 4 5;input e:1 #;");
        Texts.faulty(1, "input a:1 2 3 4;input b:1 2 3 4;input c:1 2 3 4 5;input d:1 2 3 4 5;input e:1#");
    }

    private static void row41() {
        Check.sentence("the first TOKEN of the 41st ROW");
        String rows = Texts.TINY + "row x->s;".repeat(39);
        ExampleTables x = Texts.with(rows, rows + "row y->t;");
        Check.row("ROWS", k -> x.about(k, 3), 39, 40);
        Check.due("the 40th answers", 39, () -> x.answer(1, 1, 1));
        Texts.faulty(2, rows + "row y->t;" + "#row y->t;");
        Texts.faulty(2, rows + "row y->t;" + "\n #row z");
        Texts.faulty(1, rows + "row y->t;" + "#when");
        Texts.faulty(3, rows + "row #z->t;");
    }

    private static void when41() {
        Check.sentence("the first TOKEN of the 41st ROW, WHEN");
        String whens = "when a:x then s;".repeat(39);
        ExampleTables x = Texts.withPrograms(HEAD, whens + "else s;", whens + "when a:y then t;else s;");
        Check.row("the 40th answers", k -> x.run(1, k), 0, 1);
        faultyProgram(2, whens + "when a:y then t;" + "#when a:y then t;else s;");
        faultyProgram(2, whens + "when a:y then t;" + " #when @");
        faultyProgram(1, whens + "when a:y then t;" + "#row");
        faultyProgram(1, whens + "when a:y then t;" + "#");
        faultyProgram(3, whens + "when a:#z then t;else s;");
    }

    private static void notTold() {
        Check.sentence("3 a word that is not told where a VALUE, NAME must be that was (a CELL's one of that INPUT");
        for (String word : new String[] {"z", "a", "b", "o", "p", "s", "xx", "xy"}) {
            Texts.faulty(3, TWO + "row #" + word + " p -> s;");
            Texts.faulty(3, TWO + "row !#" + word + " p -> s;");
            Texts.faulty(3, TWO + "row x/#" + word + " p -> s;");
            Texts.faultyProgram(3, TWO, "when a: #" + word + " then s; else t;");
            Texts.faultyProgram(3, TWO, "when b: q and a: !#" + word + " then s; else t;");
            Texts.faultyProgram(3, TWO, "when a: y/#" + word + " then s; else t;");
        }
        Texts.faulty(3, TWO + "row x #y -> s;");
        Texts.faultyProgram(3, TWO, "when b: #x then s; else t;");
        Check.sentence("the last one of OUTPUT");
        for (String word : new String[] {"z", "a", "o", "x", "p", "ss"}) {
            Texts.faulty(3, TWO + "row x p -> #" + word + ";");
            Texts.faultyProgram(3, TWO, "when a: x then #" + word + "; else t;");
            Texts.faultyProgram(3, TWO, "else #" + word + ";");
        }
        Check.sentence("a NAME of a TEST an INPUT's)");
        for (String word : new String[] {"z", "o", "x", "p", "s", "aa"}) {
            Texts.faultyProgram(3, TWO, "when #" + word + ": x then s; else t;");
            Texts.faultyProgram(3, TWO, "when a: x and #" + word + ": x then s; else t;");
        }
        // A PROGRAM is read by its own TABLE, not by the latest one.
        ExampleTables x = Texts.with(Texts.SMALL, Texts.OPEN);
        Check.due("of the first", 0, () -> Texts.program(x, 0, "when b: r then s; else t;"));
        Check.due("of the second", 1, () -> Texts.program(x, 1, "when c: 1 then yes; else no;"));
        Check.due("words of the second", -4, () -> Texts.program(x, 0, "when c: 1 then yes; else no;"));
        Check.due("words of the first", -4, () -> Texts.program(x, 1, "when b: r then s; else t;"));
        // What a faulty text told before is told no more.
        Check.due("a faulty text", -2, () -> Texts.table(x, "input a: x y z; output o: s t u; row z -> u"));
        Check.due("its VALUE", -4, () -> Texts.table(x, HEAD + "row z -> s;"));
        Check.due("its VALUE of OUTPUT", -4, () -> Texts.table(x, HEAD + "row x -> u;"));
    }

    private static void nameToldAlready() {
        Check.sentence("4 one that was told already: a NAME of an INPUT or OUTPUT");
        Texts.faulty(4, "input a: x y; input #a: p q; output o: s t;");
        Texts.faulty(4, "input a: x y; input b: p q; input #a: u v; output o: s t;");
        Texts.faulty(4, "input a: x y; input b: p q; input #b: u v; output o: s t;");
        Texts.faulty(4, "input a: x y; output #a: s t;");
        Texts.faulty(4, "input a: x y; input b: p q; output #b: s t;");
        Texts.faulty(4, "input a:1 2;input b:1 2;input c:1 2;input d:1 2;input e:1 2;output #e: s t;");
        good("input a: a b; input b: a b; output c: a b;");
        // A NAME that only a faulty text told is not told.
        ExampleTables x = new ExampleTables();
        Check.due("a faulty text", -2, () -> Texts.table(x, "input a: x y; input b: x y; output c: s"));
        Check.due("its NAMES in another order", 0, () -> Texts.table(x, "input c: x y; input a: x y; output b: s t;"));
    }

    private static void valueToldAlready() {
        Check.sentence("a VALUE twice in one of these");
        Texts.faulty(4, "input a: x #x; output o: s t;");
        Texts.faulty(4, "input a: x y #x; output o: s t;");
        Texts.faulty(4, "input a: x y #y; output o: s t;");
        Texts.faulty(4, "input a: 1 2 3 4 5 #5; output o: s t;");
        Texts.faulty(4, "input a: 1 2 3 4 5 #1; output o: s t;");
        Texts.faulty(4, "input a: x y; input b: x #x; output o: s t;");
        Texts.faulty(4, "input a: x y; output o: s #s;");
        Texts.faulty(4, "input a: x y; output o: 1 2 3 4 5 #1;");
        good("input a: x y; input b: y x; output o: x y;");
    }

    private static void valueTwiceInCell() {
        Check.sentence("a VALUE twice in a CELL");
        Texts.faulty(4, HEAD + "row x/#x -> s;");
        Texts.faulty(4, HEAD + "row x/y/#x -> s;");
        Texts.faulty(4, HEAD + "row y/x/#x -> s;");
        Texts.faulty(4, "input a: 1 2 3 4 5 6; output o: s t; row 1/2/3/4/5/6/#6 -> s;");
        faultyProgram(4, "when a: y/#y then s; else t;");
        Texts.faultyProgram(4, TWO, "when a: x and b: p/q/#q then s; else t;");
        good("input a: x y; input b: x y; output x: x y; row x x -> x; row x/y y/x -> y;");
        goodProgram(HEAD, "when a: x and a: x and a: x/y and a: !x then s; else s;");
    }

    private static void theLeast() {
        Check.sentence("(At one place the least.)");
        // 2 and 4.
        Texts.faulty(2, "input a: 1 2 3 4 5 6 #1;");
        Texts.faulty(2, "input a: x y; output o: 1 2 3 4 5 6 #6;");
        Texts.faulty(2, "input a:1 2 3 4 5 6;input b:1 2 3 4 5 6;input c:1 2 3 4 5 6;input d:1 #1;");
        // 1 before 2: a TOKEN that can't stand there is not too much.
        Texts.faulty(1, "input a: 1 2 3 4 5 6 #and;");
        Texts.faulty(1, "input a: 1 2 3 4 5 6 #*;");
        Texts.faulty(1, "input a:1 2 3 4 5 6;input b:1 2 3 4 5 6;input c:1 2 3 4 5 6;input d:1 #else;");
        // 2 and 3.
        Texts.faulty(2, HEAD + "row #zzzzzzzzz -> s;");
        Texts.faulty(2, HEAD + "row x -> #zzzzzzzzz;");
        faultyProgram(2, "when #zzzzzzzzz: x then s; else t;");
        // 1 and 3.
        Texts.faulty(1, HEAD + "row x #z -> s;");
        faultyProgram(1, "when a: x #z then s; else t;");
        // 1 and 4.
        Texts.faulty(1, HEAD + "row x #x -> s;");
        Texts.faulty(1, HEAD + "row !x#/x -> s;");
    }
}
