import java.util.NoSuchElementException;

/** Tables of examples, and programs that are run against them. */
public final class ExampleTables {
    public static final int NONE = -1;

    private static final int MOST_BYTES = 1000;
    private static final int BYTES_OF_FEED = 20;
    private static final int MOST_OUT = 2000;
    private static final int MOST_TABLES = 6;
    private static final int MOST_PROGRAMS = 12;
    private static final int MOST_INPUTS = 5;
    private static final int LEAST_VALUES = 2;
    private static final int MOST_VALUES = 6;
    private static final int MOST_CASES = 400;
    private static final int MOST_ROWS = 40;
    private static final int MOST_SIGNS = 8;
    private static final int FULL = -9;

    private static final int FAULT_NONE = 0;
    private static final int FAULT_PLACE = 1;
    private static final int FAULT_TOO_MUCH = 2;
    private static final int FAULT_NOT_TOLD = 3;
    private static final int FAULT_TOLD_ALREADY = 4;

    // Kinds of TOKENS; a long word is too much, the last two are the text's end and what is no TOKEN.
    private static final int WORD = 0;
    private static final int INPUT = 1;
    private static final int OUTPUT = 2;
    private static final int ROW = 3;
    private static final int WHEN = 4;
    private static final int AND = 5;
    private static final int THEN = 6;
    private static final int ELSE = 7;
    private static final int STAR = 8;
    private static final int SLASH = 9;
    private static final int BANG = 10;
    private static final int SEMICOLON = 11;
    private static final int COLON = 12;
    private static final int ARROW = 13;
    private static final int LONG_WORD = 14;
    private static final int END = 15;
    private static final int NO_TOKEN = 16;

    private final byte[] tape;
    private int tapeLength;
    private final Parser parser;
    private final Table[] tables;
    private int tableCount;
    private final Program[] programs;
    private int programCount;
    // What a TABLE's text is read into; it is made anew only when it has been kept.
    private Layout layout;
    // What a PROGRAM's text is read into; only its answers are kept.
    private final Whens whens;
    private int faultPlace;
    private final Out out;

    public ExampleTables() {
        tape = new byte[MOST_BYTES];
        tapeLength = 0;
        parser = new Parser();
        tables = new Table[MOST_TABLES];
        tableCount = 0;
        programs = new Program[MOST_PROGRAMS];
        programCount = 0;
        layout = new Layout();
        whens = new Whens();
        faultPlace = NONE;
        out = new Out();
    }

    public int feed(int a, int b, int c, int d, int e) {
        if (tapeLength + BYTES_OF_FEED > MOST_BYTES) {
            return NONE;
        }
        putNumber(a);
        putNumber(b);
        putNumber(c);
        putNumber(d);
        putNumber(e);
        return tapeLength;
    }

    public int table(int n) throws IllegalArgumentException {
        requireBytes(n);
        tapeLength = 0;
        faultPlace = NONE;
        if (tableCount >= MOST_TABLES) {
            return FULL;
        }
        int found = parser.readTable(tape, n, layout);
        if (found != FAULT_NONE) {
            faultPlace = parser.place();
            return -1 - found;
        }
        Table made = new Table(layout);
        made.findAll();
        tables[tableCount] = made;
        tableCount++;
        layout = new Layout();
        return tableCount - 1;
    }

    public int program(int table, int n) throws NoSuchElementException, IllegalArgumentException {
        Table of = tableAt(table);
        requireBytes(n);
        tapeLength = 0;
        faultPlace = NONE;
        if (programCount >= MOST_PROGRAMS) {
            return FULL;
        }
        int found = parser.readProgram(tape, n, of.layout, whens);
        if (found != FAULT_NONE) {
            faultPlace = parser.place();
            return -1 - found;
        }
        Program made = new Program(of);
        made.findAnswers(whens);
        programs[programCount] = made;
        programCount++;
        return programCount - 1;
    }

    public int fault() {
        return faultPlace;
    }

    public int about(int table, int what) throws NoSuchElementException {
        Table of = tableAt(table);
        switch (what) {
            case 0:
                return of.layout.inputCount;
            case 1:
                return of.caseCount;
            case 2:
                return of.layout.output.size;
            case 3:
                return of.layout.rows.size;
            case 4:
                return of.holeCount;
            case 5:
                return of.quarrelCount;
            case 6:
                return of.idleCount;
            case 7:
                return of.ruleCount;
            case 8:
                return of.takenCount - of.ruleCount;
            default:
                throw new NoSuchElementException("no such what");
        }
    }

    public int answer(int table, int number, int what) throws NoSuchElementException {
        Table of = tableAt(table);
        requireBelow(number, of.caseCount);
        switch (what) {
            case 0:
                return of.answers[number];
            case 1:
                return of.firstRows[number];
            case 2:
                return of.fitting[number];
            default:
                throw new NoSuchElementException("no such what");
        }
    }

    public int value(int table, int number, int input) throws NoSuchElementException {
        Table of = tableAt(table);
        requireBelow(number, of.caseCount);
        requireBelow(input, of.layout.inputCount);
        return of.caseValues[input][number];
    }

    public int hole(int table, int i) throws NoSuchElementException {
        Table of = tableAt(table);
        requireBelow(i, of.holeCount);
        return of.holes[i];
    }

    public int quarrel(int table, int i, int what) throws NoSuchElementException {
        Table of = tableAt(table);
        requireBelow(i, of.quarrelCount);
        switch (what) {
            case 0:
                return of.lesserRows[i];
            case 1:
                return of.greaterRows[i];
            case 2:
                return of.firstCaseOfBoth(of.lesserRows[i], of.greaterRows[i]);
            default:
                throw new NoSuchElementException("no such what");
        }
    }

    public boolean idle(int table, int row) throws NoSuchElementException {
        Table of = tableAt(table);
        requireBelow(row, of.layout.rows.size);
        return of.idleRows[row];
    }

    public int term(int table, int i, int input) throws NoSuchElementException {
        Table of = tableAt(table);
        requireBelow(i, of.ruleCount);
        if (input == NONE) {
            return of.terms.only[of.taken[i]];
        }
        requireBelow(input, of.layout.inputCount);
        return of.terms.valueTold(of.taken[i], input);
    }

    public int offered(int table, int i, int input) throws NoSuchElementException {
        Table of = tableAt(table);
        requireBelow(i, of.takenCount - of.ruleCount);
        int chosen = of.taken[of.ruleCount + i];
        if (input == NONE) {
            return of.terms.casesHeld(chosen);
        }
        requireBelow(input, of.layout.inputCount);
        return of.terms.valueTold(chosen, input);
    }

    public int tell(int table) throws NoSuchElementException {
        Table of = tableAt(table);
        out.clear();
        for (int i = 0; i < of.ruleCount; i++) {
            out.putTerm(of, of.taken[i]);
        }
        return out.length;
    }

    public int told(int k) throws NoSuchElementException {
        requireBelow(k, out.keptCount());
        return out.kept[k];
    }

    public int run(int program, int number) throws NoSuchElementException {
        Program of = programAt(program);
        requireBelow(number, of.table.caseCount);
        return of.answers[number];
    }

    public int fails(int program, int row) throws NoSuchElementException {
        Program of = programAt(program);
        requireRowOrNone(of.table, row);
        int sum = 0;
        for (int number = 0; number < of.table.caseCount; number++) {
            if (of.failsIn(number, row)) {
                sum++;
            }
        }
        return sum;
    }

    public int failing(int program, int row) throws NoSuchElementException {
        Program of = programAt(program);
        requireRowOrNone(of.table, row);
        for (int number = 0; number < of.table.caseCount; number++) {
            if (of.failsIn(number, row)) {
                return number;
            }
        }
        return NONE;
    }

    public int changed(int program, int other, int what) throws NoSuchElementException, IllegalArgumentException {
        Program one = programAt(program);
        Program two = programAt(other);
        if (what < 0 || what > 2) {
            throw new NoSuchElementException("no such what");
        }
        if (one.table != two.table) {
            throw new IllegalArgumentException("PROGRAMS of two TABLES");
        }
        if (what == 2) {
            return firstChanged(one, two);
        }
        return howManyChanged(one, two, what == 1);
    }

    public int count(int what) throws NoSuchElementException {
        switch (what) {
            case 0:
                return tableCount;
            case 1:
                return programCount;
            case 2:
                return tapeLength;
            case 3:
                return out.keptCount();
            default:
                throw new NoSuchElementException("no such what");
        }
    }

    private void putNumber(int number) {
        for (int shift = 24; shift >= 0 && tapeLength < tape.length; shift -= 8) {
            tape[tapeLength] = (byte) (number >>> shift);
            tapeLength++;
        }
    }

    private void requireBytes(int n) {
        if (n < 0 || n > tapeLength) {
            throw new IllegalArgumentException("the tape has not so many bytes");
        }
    }

    private Table tableAt(int number) {
        Table found = number >= 0 && number < tableCount ? tables[number] : null;
        if (found == null) {
            throw new NoSuchElementException("no such TABLE");
        }
        return found;
    }

    private Program programAt(int number) {
        Program found = number >= 0 && number < programCount ? programs[number] : null;
        if (found == null) {
            throw new NoSuchElementException("no such PROGRAM");
        }
        return found;
    }

    private static void requireBelow(int number, int bound) {
        if (number < 0 || number >= bound) {
            throw new NoSuchElementException("there is none");
        }
    }

    private static void requireRowOrNone(Table of, int row) {
        if (row != NONE) {
            requireBelow(row, of.layout.rows.size);
        }
    }

    private static int firstChanged(Program one, Program two) {
        for (int number = 0; number < one.table.caseCount; number++) {
            if (one.answers[number] != two.answers[number]) {
                return number;
            }
        }
        return NONE;
    }

    private static int howManyChanged(Program one, Program two, boolean holesAlone) {
        int sum = 0;
        for (int number = 0; number < one.table.caseCount; number++) {
            boolean counts = !holesAlone || one.table.answers[number] == NONE;
            if (counts && one.answers[number] != two.answers[number]) {
                sum++;
            }
        }
        return sum;
    }

    /** Counts on by one; the last number changes first, each stays below its limit. */
    private static void stepOn(int[] numbers, int[] limits) {
        for (int i = numbers.length - 1; i >= 0; i--) {
            numbers[i]++;
            if (i < limits.length && numbers[i] < limits[i]) {
                return;
            }
            numbers[i] = 0;
        }
    }

    /** A text, cut into TOKENS; it looks at one of them at a time. */
    static final class Lexer {
        // Each TOKEN has a byte at least, and the end stands behind them all.
        final int[] kinds;
        final int[] places;
        // A word's signs, a byte each, the first one highest.
        final long[] words;
        int size;
        int at;
        // The TOKEN that is looked at.
        int kind;
        int place;
        long word;

        Lexer() {
            kinds = new int[MOST_BYTES + 1];
            places = new int[MOST_BYTES + 1];
            words = new long[MOST_BYTES + 1];
            size = 0;
            at = 0;
            kind = END;
            place = 0;
            word = 0L;
        }

        /** Cuts the first n bytes, and looks at the first TOKEN. */
        void open(byte[] text, int n) {
            int length = Math.min(n, text.length);
            int from = 0;
            size = 0;
            while (from < length) {
                int sign = text[from];
                if (isWordSign(sign)) {
                    from = Math.max(from + 1, cutWord(text, from, length));
                } else if (sign == ' ' || sign == '\n') {
                    from++;
                } else {
                    boolean arrow = sign == '-' && from + 1 < length && text[from + 1] == '>';
                    add(arrow ? ARROW : kindOfSign(sign), from, 0L);
                    from += arrow ? 2 : 1;
                }
            }
            add(END, length, 0L);
            at = NONE;
            next();
        }

        /** Looks at the next TOKEN; at the end it stays. */
        void next() {
            if (at + 1 < size) {
                at++;
                kind = kinds[at];
                place = places[at];
                word = words[at];
            }
        }

        private void add(int kindOfToken, int from, long signs) {
            if (size < kinds.length) {
                kinds[size] = kindOfToken;
                places[size] = from;
                words[size] = signs;
                size++;
            }
        }

        private static boolean isWordSign(int sign) {
            return (sign >= 'a' && sign <= 'z') || (sign >= '0' && sign <= '9');
        }

        private static int kindOfSign(int sign) {
            switch (sign) {
                case '*':
                    return STAR;
                case '/':
                    return SLASH;
                case '!':
                    return BANG;
                case ';':
                    return SEMICOLON;
                case ':':
                    return COLON;
                default:
                    return NO_TOKEN;
            }
        }

        /** Cuts the longest row of signs; answers where it ends. */
        private int cutWord(byte[] text, int from, int length) {
            long signs = 0L;
            int end = from;
            while (end < length && isWordSign(text[end])) {
                signs = (signs << 8) | text[end];
                end++;
            }
            add(end - from > MOST_SIGNS ? LONG_WORD : kindOfWord(signs), from, signs);
            return end;
        }

        private static int kindOfWord(long signs) {
            if (spells(signs, "input")) {
                return INPUT;
            }
            if (spells(signs, "output")) {
                return OUTPUT;
            }
            if (spells(signs, "row")) {
                return ROW;
            }
            if (spells(signs, "when")) {
                return WHEN;
            }
            if (spells(signs, "and")) {
                return AND;
            }
            if (spells(signs, "then")) {
                return THEN;
            }
            return spells(signs, "else") ? ELSE : WORD;
        }

        private static boolean spells(long signs, String keyword) {
            long same = 0L;
            for (int i = 0; i < keyword.length(); i++) {
                same = (same << 8) | keyword.charAt(i);
            }
            return same == signs;
        }
    }

    /** Reads TABLES and PROGRAMS up to the first FAULT; each step tells whether it found none. */
    static final class Parser {
        final Lexer lexer;
        int found;

        Parser() {
            lexer = new Lexer();
            found = FAULT_NONE;
        }

        /** Where reading stopped: the place of the FAULT, if there was one. */
        int place() {
            return lexer.place;
        }

        int readTable(byte[] text, int n, Layout into) {
            into.clear();
            found = FAULT_NONE;
            lexer.open(text, n);
            boolean read = readInputs(into) && readOutput(into) && readRows(into);
            return read ? FAULT_NONE : found;
        }

        int readProgram(byte[] text, int n, Layout of, Whens into) {
            into.clear();
            found = FAULT_NONE;
            lexer.open(text, n);
            boolean read = readWhens(of, into.rows) && readElse(of, into);
            return read ? FAULT_NONE : found;
        }

        private boolean refuse(int fault) {
            found = fault;
            return false;
        }

        private boolean pass(int kind) {
            if (lexer.kind != kind) {
                return refuse(FAULT_PLACE);
            }
            lexer.next();
            return true;
        }

        private boolean wordIsHere() {
            if (lexer.kind == LONG_WORD) {
                return refuse(FAULT_TOO_MUCH);
            }
            return lexer.kind == WORD || refuse(FAULT_PLACE);
        }

        private boolean readInputs(Layout into) {
            for (int i = 0; i <= MOST_INPUTS; i++) {
                if (i > 0 && lexer.kind == OUTPUT) {
                    return true;
                }
                if (lexer.kind != INPUT) {
                    return refuse(FAULT_PLACE);
                }
                if (i >= MOST_INPUTS) {
                    return refuse(FAULT_TOO_MUCH);
                }
                lexer.next();
                Column input = into.inputs[i];
                if (!readColumn(into, input, into.caseCount)) {
                    return false;
                }
                into.inputCount = i + 1;
                into.caseCount *= input.size;
            }
            return refuse(FAULT_PLACE);
        }

        private boolean readOutput(Layout into) {
            // OUTPUT makes no CASES: counted from 1 on, its VALUES never are too many of them.
            return pass(OUTPUT) && readColumn(into, into.output, 1);
        }

        private boolean readColumn(Layout into, Column column, int casesBefore) {
            if (!wordIsHere()) {
                return false;
            }
            if (into.inputNamed(lexer.word) != NONE) {
                return refuse(FAULT_TOLD_ALREADY);
            }
            column.name = lexer.word;
            lexer.next();
            return pass(COLON) && readValues(column, casesBefore);
        }

        private boolean readValues(Column column, int casesBefore) {
            for (int k = 0; k <= MOST_VALUES; k++) {
                if (k >= LEAST_VALUES && lexer.kind == SEMICOLON) {
                    lexer.next();
                    return true;
                }
                if (!wordIsHere()) {
                    return false;
                }
                if (k >= MOST_VALUES || (k + 1) * casesBefore > MOST_CASES) {
                    return refuse(FAULT_TOO_MUCH);
                }
                if (column.indexOf(lexer.word) != NONE) {
                    return refuse(FAULT_TOLD_ALREADY);
                }
                column.add(lexer.word);
                lexer.next();
            }
            return refuse(FAULT_PLACE);
        }

        private boolean readRows(Layout into) {
            for (int k = 0; k <= MOST_ROWS; k++) {
                if (lexer.kind == END) {
                    return true;
                }
                if (lexer.kind != ROW) {
                    return refuse(FAULT_PLACE);
                }
                if (k >= MOST_ROWS) {
                    return refuse(FAULT_TOO_MUCH);
                }
                lexer.next();
                if (!readRow(into)) {
                    return false;
                }
            }
            return refuse(FAULT_PLACE);
        }

        private boolean readRow(Layout into) {
            into.rows.open();
            for (int i = 0; i < into.inputCount; i++) {
                if (!readCell(into.inputs[i], into.rows, i)) {
                    return false;
                }
            }
            return pass(ARROW) && readOutcome(into, into.rows);
        }

        /** The VALUE of OUTPUT that ends a ROW or a WHEN, and its ';'. */
        private boolean readOutcome(Layout of, Rows into) {
            int outcome = toldHere(of.output);
            if (outcome == NONE) {
                return false;
            }
            lexer.next();
            into.close(outcome);
            return pass(SEMICOLON);
        }

        /** The number of a Column's VALUE that stands here; NONE, and the FAULT is found, if none does. */
        private int toldHere(Column column) {
            if (!wordIsHere()) {
                return NONE;
            }
            int number = column.indexOf(lexer.word);
            if (number == NONE) {
                found = FAULT_NOT_TOLD;
            }
            return number;
        }

        private boolean readCell(Column column, Rows into, int input) {
            if (lexer.kind == STAR) {
                lexer.next();
                return true;
            }
            boolean allBut = lexer.kind == BANG;
            if (allBut) {
                lexer.next();
            }
            int mask = 0;
            for (int k = 0; k <= MOST_VALUES; k++) {
                int number = toldHere(column);
                if (number == NONE) {
                    return false;
                }
                if (((mask >> number) & 1) != 0) {
                    return refuse(FAULT_TOLD_ALREADY);
                }
                mask |= 1 << number;
                lexer.next();
                if (allBut || lexer.kind != SLASH) {
                    into.narrow(input, allBut ? ~mask : mask);
                    return true;
                }
                lexer.next();
            }
            return refuse(FAULT_PLACE);
        }

        private boolean readWhens(Layout of, Rows into) {
            for (int k = 0; k <= MOST_ROWS; k++) {
                if (lexer.kind == ELSE) {
                    return true;
                }
                if (lexer.kind != WHEN) {
                    return refuse(FAULT_PLACE);
                }
                if (k >= MOST_ROWS) {
                    return refuse(FAULT_TOO_MUCH);
                }
                lexer.next();
                if (!readWhen(of, into)) {
                    return false;
                }
            }
            return refuse(FAULT_PLACE);
        }

        private boolean readWhen(Layout of, Rows into) {
            into.open();
            // A text has no more TESTS than bytes.
            for (int k = 0; k < MOST_BYTES; k++) {
                if (!wordIsHere()) {
                    return false;
                }
                int input = of.inputNamed(lexer.word);
                if (input == NONE) {
                    return refuse(FAULT_NOT_TOLD);
                }
                lexer.next();
                if (!pass(COLON) || !readCell(of.inputs[input], into, input)) {
                    return false;
                }
                if (lexer.kind != AND) {
                    return pass(THEN) && readOutcome(of, into);
                }
                lexer.next();
            }
            return refuse(FAULT_PLACE);
        }

        private boolean readElse(Layout of, Whens into) {
            if (!pass(ELSE)) {
                return false;
            }
            into.otherwise = toldHere(of.output);
            if (into.otherwise == NONE) {
                return false;
            }
            lexer.next();
            return pass(SEMICOLON) && (lexer.kind == END || refuse(FAULT_PLACE));
        }
    }

    /** An INPUT or OUTPUT: its NAME and its VALUES. */
    static final class Column {
        long name;
        int size;
        final long[] values;

        Column() {
            name = 0L;
            size = 0;
            values = new long[MOST_VALUES];
        }

        int indexOf(long word) {
            for (int i = 0; i < size; i++) {
                if (values[i] == word) {
                    return i;
                }
            }
            return NONE;
        }

        /** A VALUE's word; 0, a word without signs, if there is none. */
        long wordAt(int number) {
            return number >= 0 && number < size ? values[number] : 0L;
        }

        void add(long word) {
            if (size < values.length) {
                values[size] = word;
                size++;
            }
        }
    }

    /** What ROWS and WHENS have in common: for each INPUT the VALUES they hold for, a bit each, and an outcome. */
    static final class Rows {
        int size;
        final int[] cells;
        final int[] outcomes;

        Rows() {
            size = 0;
            cells = new int[MOST_ROWS * MOST_INPUTS];
            outcomes = new int[MOST_ROWS];
        }

        /** Starts one more behind the last, which holds for all; it counts once it is closed. */
        void open() {
            for (int i = 0; i < MOST_INPUTS && size < MOST_ROWS; i++) {
                cells[size * MOST_INPUTS + i] = (1 << MOST_VALUES) - 1;
            }
        }

        void narrow(int input, int mask) {
            if (size < MOST_ROWS && input >= 0 && input < MOST_INPUTS) {
                cells[size * MOST_INPUTS + input] &= mask;
            }
        }

        void close(int outcome) {
            if (size < MOST_ROWS) {
                outcomes[size] = outcome;
                size++;
            }
        }

        int cell(int row, int input) {
            int at = row * MOST_INPUTS + input;
            return at >= 0 && at < cells.length ? cells[at] : 0;
        }

        boolean fits(int row, int[][] caseValues, int number) {
            for (int i = 0; i < caseValues.length; i++) {
                if (((cell(row, i) >> caseValues[i][number]) & 1) == 0) {
                    return false;
                }
            }
            return true;
        }

        /** The first from a row on that fits a CASE. */
        int firstFitting(int from, int[][] caseValues, int number) {
            for (int row = from; row < size; row++) {
                if (fits(row, caseValues, number)) {
                    return row;
                }
            }
            return NONE;
        }
    }

    /** A TABLE as it was told. */
    static final class Layout {
        int inputCount;
        int caseCount;
        final Column[] inputs;
        final Column output;
        final Rows rows;

        Layout() {
            inputCount = 0;
            caseCount = 1;
            inputs = new Column[MOST_INPUTS];
            for (int i = 0; i < MOST_INPUTS; i++) {
                inputs[i] = new Column();
            }
            output = new Column();
            rows = new Rows();
        }

        void clear() {
            inputCount = 0;
            caseCount = 1;
            for (int i = 0; i < MOST_INPUTS; i++) {
                inputs[i].size = 0;
            }
            output.size = 0;
            rows.size = 0;
        }

        int inputNamed(long word) {
            for (int i = 0; i < inputCount; i++) {
                if (inputs[i].name == word) {
                    return i;
                }
            }
            return NONE;
        }

        int[] sizes() {
            int[] sizes = new int[inputCount];
            for (int i = 0; i < inputCount; i++) {
                sizes[i] = inputs[i].size;
            }
            return sizes;
        }
    }

    /** A PROGRAM as it was told. */
    static final class Whens {
        final Rows rows;
        int otherwise;

        Whens() {
            rows = new Rows();
            otherwise = 0;
        }

        void clear() {
            rows.size = 0;
            otherwise = 0;
        }
    }

    /** A TABLE, with all that is found in it. */
    static final class Table {
        final Layout layout;
        final int caseCount;
        final int[][] caseValues;
        final int[] answers;
        final int[] firstRows;
        final int[] fitting;
        final int[] holes;
        int holeCount;
        final int[] lesserRows;
        final int[] greaterRows;
        int quarrelCount;
        final boolean[] idleRows;
        int idleCount;
        final Terms terms;
        // The TERMS of THE RULE, then those OFFERED: each holds a CASE that none before it does.
        final int[] taken;
        int ruleCount;
        int takenCount;

        Table(Layout told) {
            layout = told;
            caseCount = told.caseCount;
            caseValues = new int[told.inputCount][caseCount];
            answers = new int[caseCount];
            firstRows = new int[caseCount];
            fitting = new int[caseCount];
            holes = new int[caseCount];
            int pairs = told.rows.size * (told.rows.size - 1) / 2;
            lesserRows = new int[pairs];
            greaterRows = new int[pairs];
            idleRows = new boolean[told.rows.size];
            terms = new Terms(told);
            taken = new int[caseCount];
        }

        void findAll() {
            fillCases();
            findAnswers();
            findQuarrels();
            findIdleRows();
            terms.fillTerms();
            terms.findOnlyAnswers(answers);
            takeTerms();
        }

        private void fillCases() {
            int[] sizes = layout.sizes();
            int[] values = new int[sizes.length];
            for (int number = 0; number < caseCount; number++) {
                for (int i = 0; i < values.length; i++) {
                    caseValues[i][number] = values[i];
                }
                stepOn(values, sizes);
            }
        }

        private void findAnswers() {
            for (int number = 0; number < caseCount; number++) {
                int first = layout.rows.firstFitting(0, caseValues, number);
                firstRows[number] = first;
                fitting[number] = howManyFit(first, number);
                if (first == NONE) {
                    answers[number] = NONE;
                    holes[holeCount] = number;
                    holeCount++;
                } else {
                    answers[number] = layout.rows.outcomes[first];
                }
            }
        }

        private int howManyFit(int first, int number) {
            if (first == NONE) {
                return 0;
            }
            int sum = 1;
            for (int row = first + 1; row < layout.rows.size; row++) {
                if (layout.rows.fits(row, caseValues, number)) {
                    sum++;
                }
            }
            return sum;
        }

        private void findQuarrels() {
            int[] outcomes = layout.rows.outcomes;
            for (int lesser = 0; lesser < layout.rows.size; lesser++) {
                for (int greater = lesser + 1; greater < layout.rows.size; greater++) {
                    if (outcomes[lesser] != outcomes[greater] && firstCaseOfBoth(lesser, greater) != NONE) {
                        lesserRows[quarrelCount] = lesser;
                        greaterRows[quarrelCount] = greater;
                        quarrelCount++;
                    }
                }
            }
        }

        /** The CASE of each INPUT's least VALUE for which both ROWS hold. */
        int firstCaseOfBoth(int one, int other) {
            int number = 0;
            for (int i = 0; i < layout.inputCount; i++) {
                int size = layout.inputs[i].size;
                int both = layout.rows.cell(one, i) & layout.rows.cell(other, i);
                int least = Integer.numberOfTrailingZeros(both);
                if (least >= size) {
                    return NONE;
                }
                number = number * size + least;
            }
            return number;
        }

        /** A ROW is missed where the next that fits doesn't answer as it does. */
        private void findIdleRows() {
            for (int row = 0; row < idleRows.length; row++) {
                idleRows[row] = true;
            }
            for (int number = 0; number < caseCount; number++) {
                int first = firstRows[number];
                if (first != NONE && idleRows[first]) {
                    int second = layout.rows.firstFitting(first + 1, caseValues, number);
                    idleRows[first] = second != NONE && layout.rows.outcomes[second] == answers[number];
                }
            }
            for (int row = 0; row < idleRows.length; row++) {
                if (idleRows[row]) {
                    idleCount++;
                }
            }
        }

        private void takeTerms() {
            for (int outcome = 0; outcome < layout.output.size; outcome++) {
                takeTermsOf(outcome);
            }
            ruleCount = takenCount;
            takeTermsOf(NONE);
        }

        private void takeTermsOf(int answer) {
            terms.openCases(answers, answer);
            while (terms.openCount > 0 && takenCount < taken.length) {
                int best = terms.best(answer);
                if (best == NONE) {
                    return;
                }
                taken[takenCount] = best;
                takenCount++;
                terms.closeCases(best, caseValues);
            }
        }
    }

    /** All TERMS of a TABLE, in their order as rows: any stands for an INPUT as its VALUES' count, behind them all. */
    static final class Terms {
        private static final int MIXED = -2;

        final int[] sizes;
        final int[] strides;
        final int count;
        final int[][] told;
        final int[] toldCount;
        final int[] caseOf;
        // The one ANSWER of a TERM's CASES; NONE if they are HOLES alone.
        final int[] only;
        final int[] gains;
        final boolean[] open;
        int openCount;

        Terms(Layout of) {
            sizes = of.sizes();
            strides = new int[sizes.length];
            int product = 1;
            for (int i = sizes.length - 1; i >= 0; i--) {
                strides[i] = product;
                product *= sizes[i] + 1;
            }
            count = product;
            told = new int[sizes.length][count];
            toldCount = new int[count];
            caseOf = new int[count];
            only = new int[count];
            gains = new int[count];
            open = new boolean[of.caseCount];
            openCount = 0;
        }

        void fillTerms() {
            int[] limits = new int[sizes.length];
            for (int i = 0; i < sizes.length; i++) {
                limits[i] = sizes[i] + 1;
            }
            int[] values = new int[sizes.length];
            int cases = 0;
            for (int term = 0; term < count; term++) {
                for (int i = 0; i < sizes.length; i++) {
                    told[i][term] = values[i];
                    if (values[i] < sizes[i]) {
                        toldCount[term]++;
                    }
                }
                caseOf[term] = NONE;
                // TERMS that tell every INPUT come in the order of CASES.
                if (toldCount[term] == sizes.length) {
                    caseOf[term] = cases;
                    cases++;
                }
                stepOn(values, limits);
            }
        }

        private int firstAny(int term) {
            for (int i = 0; i < sizes.length; i++) {
                if (told[i][term] == sizes[i]) {
                    return i;
                }
            }
            return NONE;
        }

        /** The first of the TERMS that tell a VALUE where this one tells any: they come before it, a stride apart. */
        private int firstNarrower(int term, int input) {
            return term - sizes[input] * strides[input];
        }

        void findOnlyAnswers(int[] answers) {
            for (int term = 0; term < count; term++) {
                int number = caseOf[term];
                boolean oneCase = number >= 0 && number < answers.length;
                only[term] = oneCase ? answers[number] : onlyOfNarrower(term);
            }
        }

        private int onlyOfNarrower(int term) {
            int input = firstAny(term);
            if (input == NONE) {
                return NONE;
            }
            int common = NONE;
            int at = firstNarrower(term, input);
            for (int value = 0; value < sizes[input] && at >= 0 && at < term; value++) {
                if (common == NONE) {
                    common = only[at];
                } else if (only[at] != NONE && only[at] != common) {
                    return MIXED;
                }
                at += strides[input];
            }
            return common;
        }

        void openCases(int[] answers, int answer) {
            openCount = 0;
            for (int number = 0; number < open.length && number < answers.length; number++) {
                open[number] = answers[number] == answer;
                if (open[number]) {
                    openCount++;
                }
            }
        }

        void closeCases(int term, int[][] caseValues) {
            for (int number = 0; number < open.length; number++) {
                if (open[number] && holds(term, caseValues, number)) {
                    open[number] = false;
                    openCount--;
                }
            }
        }

        private boolean holds(int term, int[][] caseValues, int number) {
            for (int i = 0; i < sizes.length && i < caseValues.length; i++) {
                if (told[i][term] != sizes[i] && told[i][term] != caseValues[i][number]) {
                    return false;
                }
            }
            return true;
        }

        /** Of the TERMS of an ANSWER that which holds most open CASES, tells fewest INPUTS, comes first. */
        int best(int answer) {
            int best = NONE;
            int gain = 0;
            for (int term = 0; term < count; term++) {
                gains[term] = only[term] == answer ? gainOf(term) : 0;
                boolean fewer = best != NONE && toldCount[term] < toldCount[best];
                if (gains[term] > gain || (gains[term] == gain && fewer)) {
                    best = term;
                    gain = gains[term];
                }
            }
            return best;
        }

        private int gainOf(int term) {
            int number = caseOf[term];
            int input = firstAny(term);
            if (input == NONE) {
                return number >= 0 && number < open.length && open[number] ? 1 : 0;
            }
            int sum = 0;
            int at = firstNarrower(term, input);
            for (int value = 0; value < sizes[input] && at >= 0 && at < term; value++) {
                sum += gains[at];
                at += strides[input];
            }
            return sum;
        }

        /** What a TERM tells of an INPUT. */
        int valueTold(int term, int input) {
            int value = told[input][term];
            return value == sizes[input] ? NONE : value;
        }

        int casesHeld(int term) {
            int product = 1;
            for (int i = 0; i < sizes.length; i++) {
                if (told[i][term] == sizes[i]) {
                    product *= sizes[i];
                }
            }
            return product;
        }
    }

    /** A PROGRAM of a TABLE, with its answers in all CASES. */
    static final class Program {
        final Table table;
        final int[] answers;

        Program(Table of) {
            table = of;
            answers = new int[of.caseCount];
        }

        void findAnswers(Whens whens) {
            for (int number = 0; number < answers.length; number++) {
                int first = whens.rows.firstFitting(0, table.caseValues, number);
                answers[number] = first == NONE ? whens.otherwise : whens.rows.outcomes[first];
            }
        }

        /** Whether it FAILS a ROW, or with NONE any ROW, in a CASE. */
        boolean failsIn(int number, int row) {
            int first = table.firstRows[number];
            if (first == NONE || (row != NONE && row != first)) {
                return false;
            }
            return answers[number] != table.answers[number];
        }
    }

    /** OUT: all bytes are counted, the first of them kept. */
    static final class Out {
        final byte[] kept;
        int length;

        Out() {
            kept = new byte[MOST_OUT];
            length = 0;
        }

        void clear() {
            length = 0;
        }

        int keptCount() {
            return Math.min(length, MOST_OUT);
        }

        void putTerm(Table of, int term) {
            putWord(of.layout.output.wordAt(of.terms.only[term]));
            putText(" if");
            boolean toldOne = false;
            for (int i = 0; i < of.layout.inputCount; i++) {
                int value = of.terms.valueTold(term, i);
                if (value != NONE) {
                    putText(toldOne ? " and " : " ");
                    putWord(of.layout.inputs[i].name);
                    putText(" is ");
                    putWord(of.layout.inputs[i].wordAt(value));
                    toldOne = true;
                }
            }
            putText(toldOne ? "\n" : " always\n");
        }

        private void putWord(long word) {
            for (int shift = 56; shift >= 0; shift -= 8) {
                int sign = (int) (word >>> shift) & 255;
                if (sign != 0) {
                    putSign(sign);
                }
            }
        }

        private void putText(String text) {
            for (int i = 0; i < text.length(); i++) {
                putSign(text.charAt(i));
            }
        }

        private void putSign(int sign) {
            if (length < kept.length) {
                kept[length] = (byte) sign;
            }
            length++;
        }
    }
}
