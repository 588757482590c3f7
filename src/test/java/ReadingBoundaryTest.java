/** Promises 6 to 10 and 12 to 15: the first and the last of all that can be read, and what is just outside. */
public final class ReadingBoundaryTest {
    /** A call that reads something by one number or by two. */
    private interface Reading {
        int of(TourChain x, int a, int b);
    }

    private static final int NONE = TourChain.NONE;
    private static final int LOW = Integer.MIN_VALUE;
    private static final int HIGH = Integer.MAX_VALUE;

    private static final Check check = new Check();

    public static void main(String[] args) {
        count();
        literal();
        literalBehindAClausesEnd();
        three();
        end();
        apart();
        apartFromOneToItself();
        choice();
        choiceOfEachBound();
        truth();
        covers();
        city();
        lastOfTheSmallest();
        lastOfTheLargest();
        lastOfASmallerOneBehindALarger();
        check.end();
    }

    /** Rows of two numbers, and the answer when the object is built. */
    private static void dueWhenBuilt(String name, Reading reading, int[][] rows) {
        for (SmallChain.State state : SmallChain.State.values()) {
            dueRows(state, name, reading, rows, state.isBuilt());
        }
    }

    /** Rows of two numbers, and the answer when there is a run and its trip. */
    private static void dueWhenSolved(String name, Reading reading, int[][] rows) {
        for (SmallChain.State state : SmallChain.State.values()) {
            dueRows(state, name, reading, rows, state.hasTrip());
        }
    }

    private static void dueRows(SmallChain.State state, String name, Reading reading, int[][] rows, boolean isThere) {
        TourChain x = state.make();
        for (int[] row : rows) {
            String call = state + ", " + name + "(" + row[0] + ", " + row[1] + ")";
            check.due(call, isThere ? row[2] : NONE, reading.of(x, row[0], row[1]));
        }
    }

    private static void count() {
        check.sentence("Promise 6", "NONE when it is not built, or for another what.");
        dueWhenBuilt("count", (x, what, unused) -> x.count(what), new int[][] {
            {0, 0, 18}, {1, 0, 42}, {2, 0, 22}, {3, 0, 46}, {4, 0, 182}, {5, 0, 298}, {6, 0, 114}, {7, 0, 3690},
            {-1, 0, NONE}, {8, 0, NONE}, {-2, 0, NONE}, {9, 0, NONE}, {LOW, 0, NONE}, {HIGH, 0, NONE}});
    }

    private static void literal() {
        check.sentence("Promise 7", "NONE when it is not built, or there is none such.");
        dueWhenBuilt("literal", (x, clause, i) -> x.literal(clause, i), new int[][] {
            {0, 0, 0}, {0, 1, 2}, {41, 0, 18}, {41, 1, 7}, {41, 2, 14},
            {-1, 0, NONE}, {42, 0, NONE}, {-1, -1, NONE}, {42, -1, NONE}, {42, 2, NONE}, {43, 0, NONE},
            {0, -1, NONE}, {0, 2, NONE}, {41, -1, NONE}, {41, 3, NONE},
            {LOW, 0, NONE}, {HIGH, 0, NONE}, {0, LOW, NONE}, {0, HIGH, NONE}, {41, HIGH, NONE}, {HIGH, HIGH, NONE}});
    }

    private static void literalBehindAClausesEnd() {
        check.sentence("Promise 7", "or there is none such");
        TourChain x = new TourChain();
        for (int k = 0; k < 8; k++) {
            x.rule(0, 0, 1, 1, 1);
        }
        x.build();
        // Clauses of one, two, three, four and nine literals; K is 16 .. 24.
        dueClause(x, 16, 0);
        dueClause(x, 20, 30);
        dueClause(x, 0, 0, 2);
        dueClause(x, 24, 33, 17, 0);
        dueClause(x, 89, 49, 17, 1, 8);
        dueClause(x, 21, 32, 34, 36, 38, 40, 42, 44, 46, 48);
    }

    private static void dueClause(TourChain x, int clause, int... want) {
        check.due("literal(" + clause + ", -1)", NONE, x.literal(clause, -1));
        for (int i = 0; i < want.length; i++) {
            check.due("literal(" + clause + ", " + i + ")", want[i], x.literal(clause, i));
        }
        check.due("literal(" + clause + ", " + want.length + ")", NONE, x.literal(clause, want.length));
    }

    private static void three() {
        check.sentence("Promise 8", "NONE likewise.");
        dueWhenBuilt("three", (x, j, i) -> x.three(j, i), new int[][] {
            {0, 0, 0}, {0, 1, 2}, {0, 2, 2}, {45, 0, 18}, {45, 1, 7}, {45, 2, 14},
            {-1, 0, NONE}, {-1, 2, NONE}, {46, 0, NONE}, {46, 2, NONE}, {47, 0, NONE},
            {0, -1, NONE}, {0, 3, NONE}, {45, -1, NONE}, {45, 3, NONE}, {1, -3, NONE}, {46, -1, NONE}, {-1, 3, NONE},
            {LOW, 0, NONE}, {HIGH, 0, NONE}, {0, LOW, NONE}, {0, HIGH, NONE}, {HIGH, HIGH, NONE}});
    }

    private static void end() {
        check.sentence("Promise 9", "NONE likewise.");
        dueWhenBuilt("end", (x, edge, side) -> x.end(edge, side), new int[][] {
            {0, 0, 0}, {0, 1, 1}, {21, 0, 42}, {21, 1, 43}, {22, 0, 44}, {22, 1, 45}, {297, 0, 181}, {297, 1, 14},
            {-1, 0, NONE}, {-1, 1, NONE}, {298, 0, NONE}, {298, 1, NONE}, {299, 0, NONE},
            {0, -1, NONE}, {0, 2, NONE}, {297, -1, NONE}, {297, 2, NONE}, {-1, 2, NONE}, {298, -1, NONE},
            {LOW, 0, NONE}, {HIGH, 0, NONE}, {0, LOW, NONE}, {0, HIGH, NONE}, {HIGH, HIGH, NONE}});
    }

    private static void apart() {
        check.sentence("Promise 10", "How far two cities are apart (1, 2; 0 from one to itself). NONE likewise.");
        dueWhenBuilt("apart", (x, a, b) -> x.apart(a, b), new int[][] {
            {0, 1, 1}, {1, 0, 1}, {0, 2, 2}, {2, 0, 2}, {0, 3689, 1}, {3689, 0, 1}, {1, 3689, 2}, {3689, 1, 2},
            {3574, 3575, 1}, {3575, 3576, 1}, {3576, 3575, 1}, {3688, 3689, 2}, {3689, 3688, 2},
            {-1, 0, NONE}, {0, -1, NONE}, {3690, 0, NONE}, {0, 3690, NONE}, {3689, 3690, NONE}, {3690, 3689, NONE},
            {-1, 3690, NONE}, {-1, -2, NONE}, {3690, 3691, NONE},
            {LOW, 0, NONE}, {HIGH, 0, NONE}, {0, LOW, NONE}, {0, HIGH, NONE}, {LOW, HIGH, NONE}});
    }

    private static void apartFromOneToItself() {
        check.sentence("Promise 10, from one to itself", "0 from one to itself). NONE likewise.");
        dueWhenBuilt("apart", (x, a, b) -> x.apart(a, b), new int[][] {
            {0, 0, 0}, {5, 5, 0}, {3575, 3575, 0}, {3576, 3576, 0}, {3689, 3689, 0},
            {-1, -1, NONE}, {3690, 3690, NONE}, {LOW, LOW, NONE}, {HIGH, HIGH, NONE}});
    }

    private static void choice() {
        check.sentence("Promise 12", "NONE when there is no run, or no such step.");
        dueWhenSolved("choice", (x, i, unused) -> x.choice(i), new int[][] {
            {0, 0, 0}, {-1, 0, NONE}, {1, 0, NONE}, {2, 0, NONE}, {3, 0, NONE}, {LOW, 0, NONE}, {HIGH, 0, NONE}});
    }

    private static void choiceOfEachBound() {
        check.sentence("Promise 12", "or no such step");
        // From a larger bound to a smaller one: what a longer run has left must not be told.
        TourChain x = new TourChain();
        for (int t = 3; t >= 1; t--) {
            x.machine(2, 2, t);
            x.rule(0, 0, 1, 0, 1);
            x.build();
            check.due("solve(), bound " + t, true, x.solve());
            for (int i = -1; i <= 4; i++) {
                int want = i < 0 || i >= t ? NONE : i == 0 ? 0 : 1;
                check.due("choice(" + i + "), bound " + t, want, x.choice(i));
            }
        }
    }

    private static void truth() {
        check.sentence("Promise 13", "NONE when there is no run, or no such variable.");
        dueWhenSolved("truth", (x, variable, unused) -> x.truth(variable), new int[][] {
            {0, 0, 1}, {1, 0, 0}, {7, 0, 0}, {8, 0, 1}, {11, 0, 0}, {12, 0, 1}, {15, 0, 1}, {16, 0, 1}, {17, 0, 0},
            {18, 0, 0}, {21, 0, 0},
            {-1, 0, NONE}, {22, 0, NONE}, {23, 0, NONE}, {LOW, 0, NONE}, {HIGH, 0, NONE}});
    }

    private static void covers() {
        check.sentence("Promise 14", "NONE likewise.");
        dueWhenSolved("covers", (x, vertex, unused) -> x.covers(vertex), new int[][] {
            {0, 0, 1}, {1, 0, 0}, {42, 0, 0}, {43, 0, 1}, {44, 0, 0}, {45, 0, 1}, {46, 0, 1},
            {179, 0, 1}, {180, 0, 0}, {181, 0, 1},
            {-1, 0, NONE}, {182, 0, NONE}, {183, 0, NONE}, {LOW, 0, NONE}, {HIGH, 0, NONE}});
    }

    private static void city() {
        check.sentence("Promise 15", "NONE when there is no trip, or no such place in it.");
        dueWhenSolved("city", (x, i, unused) -> x.city(i), new int[][] {
            {0, 0, 3576}, {1, 0, 0}, {2, 0, 1}, {3687, 0, 3567}, {3688, 0, 3568}, {3689, 0, 3569},
            {-1, 0, NONE}, {3690, 0, NONE}, {3691, 0, NONE}, {LOW, 0, NONE}, {HIGH, 0, NONE}});
    }

    private static void lastOfTheSmallest() {
        check.sentence("Promises 7 to 10, without a rule", "or there is none such");
        TourChain x = new TourChain();
        x.build();
        int[] counts = {17, 34, 21, 38, 156, 249, 97, 3085};
        for (int what = 0; what < 8; what++) {
            check.due("count(" + what + ")", counts[what], x.count(what));
        }
        // The last clause: H(0, 1), not C(0, 1, 1), C(1, 1, 1).
        dueClause(x, 33, 18, 7, 14);
        check.due("literal(34, 0)", NONE, x.literal(34, 0));
        // The one of K has REST alone.
        dueClause(x, 21, 32);
        dueThree(x, 21, 32, 32, 32);
        dueThree(x, 37, 18, 7, 14);
        check.due("three(38, 0)", NONE, x.three(38, 0));
        check.due("end(248, 0)", 155, x.end(248, 0));
        check.due("end(248, 1)", 14, x.end(248, 1));
        check.due("end(249, 0)", NONE, x.end(249, 0));
        check.due("apart(3084, 3084)", 0, x.apart(3084, 3084));
        check.due("apart(3085, 3085)", NONE, x.apart(3085, 3085));
    }

    private static void dueThree(TourChain x, int j, int a, int b, int c) {
        check.due("three(" + j + ", 0)", a, x.three(j, 0));
        check.due("three(" + j + ", 1)", b, x.three(j, 1));
        check.due("three(" + j + ", 2)", c, x.three(j, 2));
        check.due("three(" + j + ", 3)", NONE, x.three(j, 3));
    }

    /** Three states, three symbols, bound 3 and eight rules that leave no cells; rule 7 alone is used, then REST. */
    private static void buildLargest(TourChain x) {
        x.machine(3, 3, 3);
        for (int k = 0; k < 7; k++) {
            x.rule(1, k % 3, 0, 0, 1);
        }
        x.rule(0, 0, 2, 1, 1);
        x.input(3, 2);
        x.build();
        x.solve();
    }

    private static void lastOfTheLargest() {
        check.sentence("Promises 7 to 10 and 12 to 15, the largest machine", "or there is none such");
        TourChain x = new TourChain();
        buildLargest(x);
        int[] counts = {103, 544, 161, 602, 2128, 3773, 1365, 46641};
        for (int what = 0; what < 8; what++) {
            check.due("count(" + what + ")", counts[what], x.count(what));
        }
        // The last clause: H(2, 3), not C(2, 3, 2), C(3, 3, 2); H is 48 .. 63.
        dueClause(x, 543, 118, 71, 94);
        check.due("literal(544, 0)", NONE, x.literal(544, 0));
        dueThree(x, 601, 118, 71, 94);
        check.due("three(602, 0)", NONE, x.three(602, 0));
        check.due("end(3772, 0)", 2127, x.end(3772, 0));
        check.due("end(3772, 1)", 94, x.end(3772, 1));
        check.due("end(3773, 0)", NONE, x.end(3773, 0));
        check.due("apart(45275, 46640)", 1, x.apart(45275, 46640));
        check.due("apart(46639, 46640)", 2, x.apart(46639, 46640));
        check.due("apart(0, 46641)", NONE, x.apart(0, 46641));
        dueRunOfTheLargest(x);
    }

    private static void dueRunOfTheLargest(TourChain x) {
        check.due("choice(0)", 7, x.choice(0));
        check.due("choice(2)", 8, x.choice(2));
        check.due("choice(3)", NONE, x.choice(3));
        // The last ones of C, H, Q and K: the head has stayed on cell 0; y 160 is of a rest on cell 3.
        check.due("truth(47)", 1, x.truth(47));
        check.due("truth(63)", 0, x.truth(63));
        check.due("truth(75)", 1, x.truth(75));
        check.due("truth(102)", 1, x.truth(102));
        check.due("truth(160)", 0, x.truth(160));
        check.due("truth(161)", NONE, x.truth(161));
        // The last three's true literal is its last one, C(3, 3, 2).
        check.due("covers(2125)", 1, x.covers(2125));
        check.due("covers(2126)", 1, x.covers(2126));
        check.due("covers(2127)", 0, x.covers(2127));
        check.due("covers(2128)", NONE, x.covers(2128));
        check.due("city(0)", 45276, x.city(0));
        // Vertex 2126 ends with its edge to literal 71, which is not in the cover.
        check.due("city(46640)", 12 * 3771 + 5, x.city(46640));
        check.due("city(46641)", NONE, x.city(46641));
    }

    private static void lastOfASmallerOneBehindALarger() {
        check.sentence("Promises 7 to 10 and 12 to 15, behind the largest machine", "or there is none such");
        TourChain x = new TourChain();
        buildLargest(x);
        x.machine(2, 2, 1);
        x.rule(0, 0, 1, 1, 1);
        x.build();
        x.solve();
        check.due("literal(42, 0)", NONE, x.literal(42, 0));
        check.due("literal(41, 3)", NONE, x.literal(41, 3));
        check.due("three(46, 0)", NONE, x.three(46, 0));
        check.due("end(298, 0)", NONE, x.end(298, 0));
        check.due("apart(3690, 0)", NONE, x.apart(3690, 0));
        check.due("choice(1)", NONE, x.choice(1));
        check.due("truth(22)", NONE, x.truth(22));
        check.due("covers(182)", NONE, x.covers(182));
        check.due("city(3690)", NONE, x.city(3690));
        check.due("city(3689)", 3569, x.city(3689));
        check.due("cost()", 3690, x.cost());
    }
}
