import java.util.NoSuchElementException;

/** Counts answers that are not as due, and tells them; each test ends with {@link #end}. */
final class Checks {
    /** A call of the class that is tested; what it throws is an answer, too. */
    interface Call {
        long answer();
    }

    static final String BOUNDS = "throws.IndexOutOfBoundsException";
    static final String NO_SUCH = "throws.NoSuchElementException";
    static final String ARGUMENT = "throws.IllegalArgumentException";
    static final String STATE = "throws.IllegalStateException";
    static final String UNSUPPORTED = "throws.UnsupportedOperationException";

    private static int right = 0;
    private static int wrong = 0;
    private static String sentence = "";

    private Checks() {}

    static void due(String what, String want, String got) {
        if (got.equals(want)) {
            right++;
            return;
        }
        wrong++;
        System.out.println(sentence + what + " answered " + got + ", due is " + want);
    }

    /** What is told from now on is told with the sentence of the document that it belongs to. */
    static void tellWith(String words) {
        sentence = words;
    }

    static int made() {
        return right + wrong;
    }

    static void due(String what, long want, Call call) {
        due(what, Long.toString(want), answerOf(call));
    }

    static void due(String what, String want, Call call) {
        due(what, want, answerOf(call));
    }

    static void due(String what, boolean want, boolean got) {
        due(what, Boolean.toString(want), Boolean.toString(got));
    }

    /** The answer as text; an exception's exact class, behind throws. */
    static String answerOf(Call call) {
        try {
            return Long.toString(call.answer());
        } catch (IndexOutOfBoundsException
                | NoSuchElementException
                | IllegalArgumentException
                | IllegalStateException
                | UnsupportedOperationException e) {
            return "throws." + e.getClass().getSimpleName();
        }
    }

    static void end() {
        System.out.println("  " + right + " answers as due, " + wrong + " not");
        if (wrong != 0 || right == 0) {
            System.exit(1);
        }
    }
}
