/** Compares answers with what is due, and counts those that are wrong. */
final class Check {
    /** A call that may throw. */
    interface Call {
        long answer();
    }

    /** What the answer of a call that throws counts as; no call answers these numbers otherwise. */
    static final long STATE = -1001;
    static final long ARGUMENT = -1002;
    static final long OTHER = -1003;

    private static final int MOST_LINES = 40;
    private int wrong = 0;
    private long asked = 0;
    private String where = "";

    static long answerOf(Call call) {
        try {
            return call.answer();
        } catch (IllegalStateException e) {
            return STATE;
        } catch (IllegalArgumentException e) {
            return ARGUMENT;
        } catch (RuntimeException e) {
            return OTHER;
        }
    }

    /** What follows is a test of this sentence of the document. */
    void sentence(String place, String words) {
        where = "[" + place + ": " + words + "] ";
    }

    void due(String what, long want, long got) {
        asked++;
        if (got != want) {
            wrong++;
            if (wrong <= MOST_LINES) {
                System.out.println(where + what + " answered " + text(got) + ", due is " + text(want));
            }
        }
    }

    void due(String what, boolean want, boolean got) {
        due(what, want ? 1 : 0, got ? 1 : 0);
    }

    void due(String what, long want, Call call) {
        due(what, want, answerOf(call));
    }

    long asked() {
        return asked;
    }

    void end() {
        System.out.println(asked + " answers, " + wrong + " wrong");
        if (wrong != 0) {
            System.exit(1);
        }
    }

    private static String text(long answer) {
        if (answer == STATE) {
            return "throws.IllegalStateException";
        }
        if (answer == ARGUMENT) {
            return "throws.IllegalArgumentException";
        }
        return answer == OTHER ? "throws.another" : Long.toString(answer);
    }
}
