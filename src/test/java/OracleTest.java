import java.util.ArrayList;
import java.util.List;
import java.util.Map;
import java.util.Random;

/** Tables, programs and broken texts by lot (always the same ones), measured against the oracle. */
public final class OracleTest {
    private static final int TABLES = 400;
    private static final int BROKEN = 20000;
    /** An object is used for at most so many calls; the texts that load it take their part. */
    private static final int CALLS = 300;
    private static final String[] WORDS = {"a", "b", "c", "d", "e", "x1", "abcdefgh", "0", "zz", "inputs"};
    private static final String[] TOKENS = {"*", "/", "!", ";", ":", "->", "-", ">", "@", "input", "output", "row",
        "when", "and", "then", "else", "abcdefghi", "a", "b", "x1", "\n", " ", "\t", "A", "\u00e9"};

    private final Random lot = new Random(20261118L);
    private String tableText;
    private final List<String> programTexts = new ArrayList<>();
    private ExampleTables x;
    private int calls;

    private OracleTest() {
    }

    public static void main(String[] args) {
        OracleTest test = new OracleTest();
        for (int k = 0; k < TABLES; k++) {
            test.compareOneTable();
        }
        test.compareBroken();
        Check.end();
    }

    private interface Asked {
        Object of(ExampleTables x);
    }

    private void due(String what, Object want, Asked asked) {
        if (calls >= CALLS) {
            load();
        }
        calls++;
        ExampleTables now = x;
        Check.due(what + " of '" + tableText + "' " + programTexts, want, () -> asked.of(now));
    }

    private void load() {
        x = new ExampleTables();
        calls = 0;
        Texts.table(x, tableText);
        for (String text : programTexts) {
            Texts.program(x, 0, text);
        }
        x.tell(0);
    }

    private void compareOneTable() {
        tableText = someTable();
        Oracle.Table table = Oracle.table(tableText);
        programTexts.clear();
        programTexts.add(someProgram(table));
        programTexts.add(someProgram(table));
        load();
        compareCases(table);
        compareRows(table);
        compareTerms(table);
        comparePrograms(table);
    }

    private void compareCases(Oracle.Table table) {
        List<Map<String, String>> cases = table.cases();
        List<String> names = new ArrayList<>(table.inputs.keySet());
        due("INPUTS", names.size(), t -> t.about(0, 0));
        due("CASES", cases.size(), t -> t.about(0, 1));
        due("VALUES", table.output.size(), t -> t.about(0, 2));
        int holes = 0;
        for (int k = 0; k < cases.size(); k++) {
            int number = k;
            Map<String, String> one = cases.get(k);
            int first = -1;
            int fits = 0;
            for (int row = table.rows.size() - 1; row >= 0; row--) {
                if (table.rows.get(row).fits(one)) {
                    first = row;
                    fits++;
                }
            }
            String answer = Oracle.Table.answer(table.rows, one);
            due("answer 0 " + k, answer == null ? -1 : table.output.indexOf(answer), t -> t.answer(0, number, 0));
            due("answer 1 " + k, first, t -> t.answer(0, number, 1));
            due("answer 2 " + k, fits, t -> t.answer(0, number, 2));
            for (int i = 0; i < names.size(); i++) {
                int input = i;
                int value = table.inputs.get(names.get(i)).indexOf(one.get(names.get(i)));
                due("value " + k + " " + i, value, t -> t.value(0, number, input));
            }
            if (answer == null) {
                int hole = holes++;
                due("hole " + hole, k, t -> t.hole(0, hole));
            }
        }
        due("HOLES", holes, t -> t.about(0, 4));
    }

    private void compareRows(Oracle.Table table) {
        List<Map<String, String>> cases = table.cases();
        int quarrels = 0;
        int idle = 0;
        for (int r = 0; r < table.rows.size(); r++) {
            int row = r;
            boolean isIdle = table.idle(r);
            idle += isIdle ? 1 : 0;
            due("idle " + r, isIdle, t -> t.idle(0, row));
            for (int s = r + 1; s < table.rows.size(); s++) {
                int other = s;
                int first = firstOfBoth(table.rows.get(r), table.rows.get(s), cases);
                if (first >= 0 && !table.rows.get(r).outcome.equals(table.rows.get(s).outcome)) {
                    int i = quarrels++;
                    due("quarrel 0 " + i, row, t -> t.quarrel(0, i, 0));
                    due("quarrel 1 " + i, other, t -> t.quarrel(0, i, 1));
                    due("quarrel 2 " + i, first, t -> t.quarrel(0, i, 2));
                }
            }
        }
        due("ROWS", table.rows.size(), t -> t.about(0, 3));
        due("QUARRELS", quarrels, t -> t.about(0, 5));
        due("IDLE ROWS", idle, t -> t.about(0, 6));
    }

    private static int firstOfBoth(Oracle.Rule one, Oracle.Rule other, List<Map<String, String>> cases) {
        for (int number = 0; number < cases.size(); number++) {
            if (one.fits(cases.get(number)) && other.fits(cases.get(number))) {
                return number;
            }
        }
        return -1;
    }

    private void compareTerms(Oracle.Table table) {
        List<String> names = new ArrayList<>(table.inputs.keySet());
        int terms = 0;
        for (int v = 0; v < table.output.size(); v++) {
            for (Map<String, String> term : table.cover(table.output.get(v))) {
                int i = terms++;
                due("term " + i + " NONE", v, t -> t.term(0, i, -1));
                for (int k = 0; k < names.size(); k++) {
                    int input = k;
                    due("term " + i + " " + k, valueOf(table, term, names.get(k)), t -> t.term(0, i, input));
                }
            }
        }
        due("TERMS", terms, t -> t.about(0, 7));
        List<Map<String, String>> offered = table.cover(null);
        due("OFFERED", offered.size(), t -> t.about(0, 8));
        for (int o = 0; o < offered.size(); o++) {
            int i = o;
            due("offered " + o + " NONE", table.held(offered.get(o), table.cases()).size(), t -> t.offered(0, i, -1));
            for (int k = 0; k < names.size(); k++) {
                int input = k;
                due("offered " + o + " " + k, valueOf(table, offered.get(o), names.get(k)),
                    t -> t.offered(0, i, input));
            }
        }
        String told = table.told();
        due("tell", told.length(), t -> t.tell(0));
        int kept = Math.min(2000, told.length());
        due("kept", kept, t -> t.count(3));
        for (int k = 0; k < kept; k++) {
            int at = k;
            due("told " + k, (int) told.charAt(k), t -> t.told(at));
        }
    }

    private static int valueOf(Oracle.Table table, Map<String, String> term, String name) {
        return term.get(name) == null ? -1 : table.inputs.get(name).indexOf(term.get(name));
    }

    private void comparePrograms(Oracle.Table table) {
        List<Map<String, String>> cases = table.cases();
        List<Oracle.Program> programs = new ArrayList<>();
        for (String text : programTexts) {
            programs.add(Oracle.program(table, text));
        }
        for (int p = 0; p < 2; p++) {
            int program = p;
            for (int k = 0; k < cases.size(); k++) {
                int number = k;
                int answer = table.output.indexOf(programs.get(p).answer(cases.get(k)));
                due("run " + p + " " + k, answer, t -> t.run(program, number));
            }
            for (int r = -1; r < table.rows.size(); r++) {
                int row = r;
                List<Integer> failing = failing(table, programs.get(p), r);
                due("fails " + p + " " + r, failing.size(), t -> t.fails(program, row));
                due("failing " + p + " " + r, failing.isEmpty() ? -1 : failing.get(0), t -> t.failing(program, row));
            }
        }
        int changed = 0;
        int open = 0;
        int first = -1;
        for (int k = cases.size() - 1; k >= 0; k--) {
            Map<String, String> one = cases.get(k);
            if (!programs.get(0).answer(one).equals(programs.get(1).answer(one))) {
                changed++;
                open += Oracle.Table.answer(table.rows, one) == null ? 1 : 0;
                first = k;
            }
        }
        due("changed 0", changed, t -> t.changed(0, 1, 0));
        due("changed 1", open, t -> t.changed(1, 0, 1));
        due("changed 2", first, t -> t.changed(0, 1, 2));
    }

    private static List<Integer> failing(Oracle.Table table, Oracle.Program program, int row) {
        List<Integer> failing = new ArrayList<>();
        List<Map<String, String>> cases = table.cases();
        for (int number = 0; number < cases.size(); number++) {
            for (int r = 0; r < table.rows.size(); r++) {
                if (table.rows.get(r).fits(cases.get(number))) {
                    boolean fails = !table.rows.get(r).outcome.equals(program.answer(cases.get(number)));
                    if (fails && (row == -1 || row == r)) {
                        failing.add(number);
                    }
                    break;
                }
            }
        }
        return failing;
    }

    private void compareBroken() {
        for (int k = 0; k < BROKEN; k++) {
            tableText = someTable();
            programTexts.clear();
            Oracle.Table table = Oracle.table(tableText);
            if (lot.nextInt(2) == 0) {
                String text = broken(tableText);
                ExampleTables y = new ExampleTables();
                compareFault(text, () -> Oracle.table(text), () -> Texts.table(y, text), y);
            } else {
                String text = broken(someProgram(table));
                load();
                compareFault(text, () -> Oracle.program(table, text), () -> Texts.program(x, 0, text), x);
            }
        }
    }

    private void compareFault(String text, Runnable reading, Check.Call call, ExampleTables y) {
        int answer = 0;
        int place = -1;
        try {
            reading.run();
        } catch (Oracle.Fault fault) {
            answer = -1 - fault.kind;
            place = fault.place;
        }
        Check.due("'" + text + "' for '" + tableText + "'", answer, call);
        Check.due("fault of '" + text + "' for '" + tableText + "'", place, y::fault);
    }

    private String broken(String text) {
        int at = lot.nextInt(text.length() + 1);
        String token = lot.nextInt(3) == 0 ? WORDS[lot.nextInt(WORDS.length)] : TOKENS[lot.nextInt(TOKENS.length)];
        int gone = lot.nextInt(4) == 0 ? 0 : lot.nextInt(5);
        String rest = text.substring(Math.min(text.length(), at + gone));
        String end = lot.nextInt(8) == 0 ? "" : rest;
        String made = text.substring(0, at) + (lot.nextInt(4) == 0 ? "" : " " + token + " ") + end;
        return made.substring(0, Math.min(1000, made.length()));
    }

    private List<String> someWords(int many) {
        List<String> words = new ArrayList<>();
        while (words.size() < many) {
            String word = WORDS[lot.nextInt(WORDS.length)];
            if (!words.contains(word)) {
                words.add(word);
            }
        }
        return words;
    }

    private String someTable() {
        StringBuilder text = new StringBuilder();
        int inputs = 1 + lot.nextInt(5);
        int most = 2 + lot.nextInt(5);
        int cases = 1;
        List<List<String>> values = new ArrayList<>();
        List<String> names = someWords(6);
        for (int i = 0; i < inputs; i++) {
            int size = 2 + lot.nextInt(most - 1);
            if (cases * size > 400) {
                break;
            }
            cases *= size;
            values.add(someWords(size));
            text.append("input ").append(names.get(i)).append(":").append(String.join(" ", values.get(i))).append(";");
        }
        List<String> output = someWords(2 + lot.nextInt(lot.nextInt(5) + 1));
        text.append("output ").append(names.get(5)).append(":").append(String.join(" ", output)).append(";");
        int rows = lot.nextInt(41);
        int kind = lot.nextInt(3);
        for (int r = 0; r < rows; r++) {
            StringBuilder row = new StringBuilder("row");
            for (List<String> of : values) {
                row.append(" ").append(someCell(of, kind));
            }
            row.append("->").append(output.get(lot.nextInt(output.size()))).append(";");
            if (text.length() + row.length() <= 1000) {
                text.append(row);
            }
        }
        return text.toString();
    }

    private String someCell(List<String> values, int kind) {
        int sort = lot.nextInt(6);
        if (sort == 0 || kind == 2 && sort < 3) {
            return "*";
        }
        if (sort == 1) {
            return "!" + values.get(lot.nextInt(values.size()));
        }
        List<String> some = new ArrayList<>(values);
        java.util.Collections.shuffle(some, lot);
        int many = kind == 0 ? 1 : 1 + lot.nextInt(some.size());
        return String.join("/", some.subList(0, many));
    }

    private String someProgram(Oracle.Table table) {
        StringBuilder text = new StringBuilder();
        List<String> names = new ArrayList<>(table.inputs.keySet());
        int whens = lot.nextInt(6);
        for (int w = 0; w < whens; w++) {
            int tests = 1 + lot.nextInt(3);
            for (int k = 0; k < tests; k++) {
                String name = names.get(lot.nextInt(names.size()));
                text.append(k == 0 ? "when " : " and ").append(name).append(":");
                text.append(someCell(table.inputs.get(name), lot.nextInt(3)));
            }
            text.append(" then ").append(table.output.get(lot.nextInt(table.output.size()))).append(";");
        }
        return text.append("else ").append(table.output.get(lot.nextInt(table.output.size()))).append(";").toString();
    }
}
