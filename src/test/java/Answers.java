/** What an object of the small machine answers, so that it can be told whether a call has changed something. */
final class Answers {
    /** Places at the trip's ends, about a border of its vertices, and within. */
    private static final int[] PLACES = {0, 1, 2, 60, 61, 802, 803, 3687, 3688, 3689};

    private Answers() {
    }

    /** Some 220 answers: two rows of them can be had of one object, which is used for at most 512 calls. */
    static long[] of(TourChain x) {
        long[] answers = new long[13 + SmallChain.VARIABLES + SmallChain.VERTICES + PLACES.length];
        int n = 0;
        for (int what = 0; what < 8; what++) {
            answers[n++] = x.count(what);
        }
        answers[n++] = x.literal(16, 0);
        answers[n++] = x.literal(17, 0);
        answers[n++] = x.choice(0);
        answers[n++] = Check.answerOf(() -> x.cost());
        answers[n++] = Check.answerOf(() -> x.replay() ? 1 : 0);
        for (int variable = 0; variable < SmallChain.VARIABLES; variable++) {
            answers[n++] = x.truth(variable);
        }
        for (int vertex = 0; vertex < SmallChain.VERTICES; vertex++) {
            answers[n++] = x.covers(vertex);
        }
        for (int place : PLACES) {
            answers[n++] = x.city(place);
        }
        return answers;
    }

    static void compare(Check check, String after, long[] before, TourChain x) {
        long[] now = of(x);
        for (int n = 0; n < now.length; n++) {
            check.due(after + ", answer " + n + " of Answers", before[n], now[n]);
        }
    }
}
