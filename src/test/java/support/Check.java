import java.util.NoSuchElementException;

/** Counts wrong answers, and tells exceptions as answers. */
final class Check {
    static final int LEAST = Integer.MIN_VALUE;
    static final int MOST = Integer.MAX_VALUE;
    static final String NO_SUCH_ELEMENT = "NoSuchElementException";
    static final String ILLEGAL_ARGUMENT = "IllegalArgumentException";

    private static int wrong = 0;
    private static int asked = 0;
    private static int sentences = 0;
    private static String heading = "";

    private Check() {
    }

    interface Call {
        Object answer();
    }

    interface Asked {
        Object of(int k);
    }

    /** The words of the document that the answers behind it stand for. */
    static void sentence(String words) {
        sentences++;
        heading = "[" + words + "] ";
    }

    /** The answer of a call, or the name of the exception that it throws. */
    static String outcome(Call call) {
        try {
            return String.valueOf(call.answer());
        } catch (NoSuchElementException e) {
            return NO_SUCH_ELEMENT;
        } catch (RuntimeException e) {
            return e.getClass().getSimpleName();
        }
    }

    static void due(String what, Object want, Call call) {
        asked++;
        String got = outcome(call);
        if (!got.equals(String.valueOf(want))) {
            wrong++;
            if (wrong <= 50) {
                System.out.println(heading + what + ": answered " + got + ", due is " + want);
            }
        }
    }

    static void noSuch(String what, Call call) {
        due(what, NO_SUCH_ELEMENT, call);
    }

    static void illegal(String what, Call call) {
        due(what, ILLEGAL_ARGUMENT, call);
    }

    /** The answers from 0 on. */
    static void row(String what, Asked call, int... want) {
        for (int k = 0; k < want.length; k++) {
            int at = k;
            due(what + " " + k, want[k], () -> call.of(at));
        }
    }

    /** There is none below the least, none from the end on, however far. */
    static void noneBeyond(String what, int least, int end, Asked call) {
        for (int k : new int[] {least - 1, LEAST, end, MOST}) {
            noSuch(what + " " + k, () -> call.of(k));
        }
    }

    /** The answers from 0 on, and no more of them. */
    static void wholeRow(String what, Asked call, int... want) {
        row(what, call, want);
        noneBeyond(what, 0, want.length, call);
    }

    static void end() {
        String of = sentences == 0 ? "" : " of " + sentences + " sentences";
        System.out.println(asked + " answers" + of + " asked, " + wrong + " wrong");
        if (wrong != 0 || asked == 0) {
            System.exit(1);
        }
    }
}
