import java.util.ArrayList;
import java.util.HashSet;
import java.util.LinkedHashMap;
import java.util.List;
import java.util.Map;
import java.util.Set;
import java.util.TreeSet;

/** The document's terms in the plainest form, by sets and words: the class is measured against it. */
final class Oracle {
    static final Set<String> KEYWORDS = Set.of("input", "output", "row", "when", "and", "then", "else");

    static final class Fault extends RuntimeException {
        private static final long serialVersionUID = 1L;
        final int kind;
        final int place;

        Fault(int kind, int place) {
            this.kind = kind;
            this.place = place;
        }
    }

    /** A ROW or WHEN: for each INPUT's NAME the VALUES it holds for. */
    static final class Rule {
        final Map<String, Set<String>> cells = new LinkedHashMap<>();
        String outcome;

        boolean fits(Map<String, String> one) {
            for (Map.Entry<String, Set<String>> cell : cells.entrySet()) {
                if (!cell.getValue().contains(one.get(cell.getKey()))) {
                    return false;
                }
            }
            return true;
        }
    }

    static final class Program {
        final List<Rule> whens = new ArrayList<>();
        String otherwise;

        String answer(Map<String, String> one) {
            for (Rule when : whens) {
                if (when.fits(one)) {
                    return when.outcome;
                }
            }
            return otherwise;
        }
    }

    static final class Table {
        final Map<String, List<String>> inputs = new LinkedHashMap<>();
        String outputName;
        List<String> output = new ArrayList<>();
        final List<Rule> rows = new ArrayList<>();

        List<Map<String, String>> cases() {
            return combined(false);
        }

        /** All TERMS in their order: VALUES by number, then any, of which nothing is told. */
        List<Map<String, String>> terms() {
            return combined(true);
        }

        private List<Map<String, String>> combined(boolean withAny) {
            List<Map<String, String>> all = new ArrayList<>();
            all.add(new LinkedHashMap<>());
            for (Map.Entry<String, List<String>> input : inputs.entrySet()) {
                List<Map<String, String>> longer = new ArrayList<>();
                for (Map<String, String> start : all) {
                    for (String value : input.getValue()) {
                        Map<String, String> one = new LinkedHashMap<>(start);
                        one.put(input.getKey(), value);
                        longer.add(one);
                    }
                    if (withAny) {
                        longer.add(new LinkedHashMap<>(start));
                    }
                }
                all = longer;
            }
            return all;
        }

        static String answer(List<Rule> rows, Map<String, String> one) {
            for (Rule row : rows) {
                if (row.fits(one)) {
                    return row.outcome;
                }
            }
            return null;
        }

        boolean idle(int row) {
            List<Rule> others = new ArrayList<>(rows);
            others.remove(row);
            for (Map<String, String> one : cases()) {
                if (!String.valueOf(answer(rows, one)).equals(String.valueOf(answer(others, one)))) {
                    return false;
                }
            }
            return true;
        }

        Set<Integer> held(Map<String, String> term, List<Map<String, String>> cases) {
            Set<Integer> held = new TreeSet<>();
            for (int number = 0; number < cases.size(); number++) {
                if (cases.get(number).entrySet().containsAll(term.entrySet())) {
                    held.add(number);
                }
            }
            return held;
        }

        /** The TERMS of an ANSWER that cover its CASES; null: HOLES. */
        List<Map<String, String>> cover(String answer) {
            List<Map<String, String>> cases = cases();
            Set<Integer> left = new HashSet<>();
            Set<Integer> against = new HashSet<>();
            for (int number = 0; number < cases.size(); number++) {
                String given = answer(rows, cases.get(number));
                if (answer == null ? given == null : answer.equals(given)) {
                    left.add(number);
                } else if (given != null) {
                    against.add(number);
                }
            }
            List<Map<String, String>> good = new ArrayList<>();
            List<Set<Integer>> goodHeld = new ArrayList<>();
            for (Map<String, String> term : terms()) {
                Set<Integer> held = held(term, cases);
                if (held.stream().noneMatch(against::contains)) {
                    good.add(term);
                    goodHeld.add(held);
                }
            }
            List<Map<String, String>> taken = new ArrayList<>();
            while (!left.isEmpty()) {
                int best = -1;
                long bestGain = 0;
                for (int t = 0; t < good.size(); t++) {
                    long gain = goodHeld.get(t).stream().filter(left::contains).count();
                    if (gain > bestGain
                        || best >= 0 && gain == bestGain && good.get(t).size() < good.get(best).size()) {
                        best = t;
                        bestGain = gain;
                    }
                }
                taken.add(good.get(best));
                left.removeAll(goodHeld.get(best));
            }
            return taken;
        }

        String told() {
            StringBuilder text = new StringBuilder();
            for (String value : output) {
                for (Map<String, String> term : cover(value)) {
                    List<String> parts = new ArrayList<>();
                    term.forEach((name, told) -> parts.add(name + " is " + told));
                    text.append(value).append(" if ");
                    text.append(parts.isEmpty() ? "always" : String.join(" and ", parts)).append('\n');
                }
            }
            return text.toString();
        }
    }

    private final String text;
    private int at = 0;

    private Oracle(String text) {
        this.text = text;
    }

    static Table table(String text) {
        return new Oracle(text).readTable();
    }

    static Program program(Table table, String text) {
        return new Oracle(text).readProgram(table);
    }

    /** The TOKEN at the place where blanks end; empty at the end, null if there stands none. */
    private String peek() {
        while (at < text.length() && (text.charAt(at) == 32 || text.charAt(at) == 10)) {
            at++;
        }
        if (at == text.length()) {
            return "";
        }
        int end = at;
        while (end < text.length() && "abcdefghijklmnopqrstuvwxyz0123456789".indexOf(text.charAt(end)) >= 0) {
            end++;
        }
        if (end > at) {
            return text.substring(at, end);
        }
        if (text.startsWith("->", at)) {
            return "->";
        }
        return "*/!;:".indexOf(text.charAt(at)) >= 0 ? text.substring(at, at + 1) : null;
    }

    private boolean sees(String token) {
        return token.equals(peek());
    }

    private boolean seesWord() {
        String token = peek();
        return token != null && !token.isEmpty() && Character.isLetterOrDigit(token.charAt(0))
            && !KEYWORDS.contains(token);
    }

    private void skip() {
        at += peek().length();
    }

    private void must(int kind, boolean good) {
        if (!good) {
            peek();
            throw new Fault(kind, at);
        }
    }

    private void expect(String token) {
        must(1, sees(token));
        skip();
    }

    /** A word, taken if it is none of these, or one of those, as far as they are given. */
    private String word(Set<String> noneOf, List<String> oneOf, boolean tooMany) {
        must(1, seesWord());
        String word = peek();
        must(2, word.length() <= 8 && !tooMany);
        must(3, oneOf == null || oneOf.contains(word));
        must(4, noneOf == null || !noneOf.contains(word));
        skip();
        return word;
    }

    private Table readTable() {
        Table table = new Table();
        int cases = 1;
        must(1, sees("input"));
        while (sees("input")) {
            must(2, table.inputs.size() < 5);
            skip();
            String name = word(table.inputs.keySet(), null, false);
            List<String> values = readValues(cases);
            table.inputs.put(name, values);
            cases *= values.size();
        }
        expect("output");
        table.outputName = word(table.inputs.keySet(), null, false);
        table.output = readValues(0);
        while (!sees("")) {
            must(1, sees("row"));
            must(2, table.rows.size() < 40);
            skip();
            Rule row = new Rule();
            for (String name : table.inputs.keySet()) {
                row.cells.put(name, readCell(table.inputs.get(name)));
            }
            expect("->");
            row.outcome = word(null, table.output, false);
            expect(";");
            table.rows.add(row);
        }
        return table;
    }

    private List<String> readValues(int cases) {
        List<String> values = new ArrayList<>();
        expect(":");
        while (values.size() < 2 || !sees(";")) {
            boolean tooMany = values.size() == 6 || cases * (values.size() + 1) > 400;
            values.add(word(new HashSet<>(values), null, tooMany));
        }
        skip();
        return values;
    }

    private Set<String> readCell(List<String> values) {
        Set<String> cell = new HashSet<>();
        if (sees("*")) {
            skip();
            cell.addAll(values);
        } else if (sees("!")) {
            skip();
            cell.addAll(values);
            cell.remove(word(null, values, false));
        } else {
            cell.add(word(null, values, false));
            while (sees("/")) {
                skip();
                cell.add(word(cell, values, false));
            }
        }
        return cell;
    }

    private Program readProgram(Table table) {
        Program program = new Program();
        while (sees("when")) {
            must(2, program.whens.size() < 40);
            Rule when = new Rule();
            do {
                skip();
                String name = word(null, new ArrayList<>(table.inputs.keySet()), false);
                expect(":");
                Set<String> cell = readCell(table.inputs.get(name));
                Set<String> before = when.cells.get(name);
                if (before != null) {
                    cell.retainAll(before);
                }
                when.cells.put(name, cell);
            } while (sees("and"));
            expect("then");
            when.outcome = word(null, table.output, false);
            expect(";");
            program.whens.add(when);
        }
        expect("else");
        program.otherwise = word(null, table.output, false);
        expect(";");
        must(1, sees(""));
        return program;
    }
}
