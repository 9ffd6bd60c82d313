import java.util.NoSuchElementException;

/** What the tests have in common: counting wrong answers, feeding texts, telling exceptions. */
final class Check {
    static final String NO_SUCH_ELEMENT = "NoSuchElementException";
    static final String ILLEGAL_ARGUMENT = "IllegalArgumentException";

    private static int wrong = 0;
    private static int asked = 0;

    private Check() {
    }

    interface Call {
        Object answer();
    }

    /** The answer of a call, or the name of the exception that it throws. */
    static String outcome(Call call) {
        try {
            return String.valueOf(call.answer());
        } catch (NoSuchElementException e) {
            return NO_SUCH_ELEMENT;
        } catch (RuntimeException e) {
            return e.getClass().getSimpleName();
        }
    }

    static void due(String what, Object want, Call call) {
        asked++;
        String got = outcome(call);
        if (!got.equals(String.valueOf(want))) {
            wrong++;
            if (wrong <= 50) {
                System.out.println(what + ": answered " + got + ", due is " + want);
            }
        }
    }

    static void noSuch(String what, Call call) {
        due(what, NO_SUCH_ELEMENT, call);
    }

    static void illegal(String what, Call call) {
        due(what, ILLEGAL_ARGUMENT, call);
    }

    /** Feeds a text, with blanks behind it up to whole feeds. */
    static void feed(ExampleTables x, String text) {
        for (int from = 0; from < text.length(); from += 20) {
            x.feed(number(text, from), number(text, from + 4), number(text, from + 8),
                number(text, from + 12), number(text, from + 16));
        }
    }

    private static int number(String text, int from) {
        int number = 0;
        for (int i = from; i < from + 4; i++) {
            number = (number << 8) | (i < text.length() ? text.charAt(i) & 255 : ' ');
        }
        return number;
    }

    static int table(ExampleTables x, String text) {
        feed(x, text);
        return x.table(text.length());
    }

    static int program(ExampleTables x, int table, String text) {
        feed(x, text);
        return x.program(table, text.length());
    }

    static String told(ExampleTables x) {
        StringBuilder all = new StringBuilder();
        for (int k = 0; k < x.count(3); k++) {
            all.append((char) x.told(k));
        }
        return all.toString();
    }

    static void end() {
        System.out.println(asked + " answers asked, " + wrong + " wrong");
        if (wrong != 0 || asked == 0) {
            System.exit(1);
        }
    }
}
