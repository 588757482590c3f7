/** Each promise by hand: ordinary inputs, the edges that the document names, and refused calls. */
public final class PromiseTest {
    private static final int NONE = TourChain.NONE;
    private static final int LOW = Integer.MIN_VALUE;
    private static final int HIGH = Integer.MAX_VALUE;

    private static final Check check = new Check();
    private static final SmallChain small = new SmallChain(check);

    // Of the small machine, written out from the document:
    // C 0 .. 7, H 8 .. 11, Q 12 .. 15, K 16 (the rule) and 17 (REST).
    private static final int[][] SMALL_CLAUSES = {
        {0, 2}, {1, 3}, {4, 6}, {5, 7}, {8, 10}, {9, 11}, {12, 14}, {13, 15},
        {16, 18}, {17, 19}, {20, 22}, {21, 23},
        {24, 26}, {25, 27}, {28, 30}, {29, 31},
        {0}, {4}, {16}, {24}, {30},
        {32, 34},
        {33, 24}, {33, 30},
        {33, 17, 0}, {33, 17, 10}, {33, 17, 20}, {33, 19, 4}, {33, 19, 14}, {33, 19, 22},
        {35, 26}, {35, 30},
        {35, 17, 20}, {35, 17, 1, 8}, {35, 17, 3, 10}, {35, 19, 22}, {35, 19, 5, 12}, {35, 19, 7, 14},
        {16, 1, 8}, {16, 3, 10}, {18, 5, 12}, {18, 7, 14},
    };
    private static final int[] SMALL_TRUE = {0, 2, 5, 6, 8, 10, 12, 15, 16};

    public static void main(String[] args) {
        promise1NewObject();
        promise2Machine();
        promise2MachineRefused();
        promise3Rule();
        promise3RuleRefused();
        promise4Input();
        promise5Build();
        promise6Count();
        promise7Literal();
        promise7LiteralAtTheBorders();
        promise8Three();
        promise9End();
        promise10Apart();
        promise11Solve();
        promise11SolveLowest();
        promise12Choice();
        promise13Truth();
        promise14Covers();
        promise15City();
        promise16Put();
        promise17Turn();
        promise18Cost();
        promise19Pull();
        promise19PullSelectors();
        promise20Replay();
        check.end();
    }

    private static void promise1NewObject() {
        TourChain x = new TourChain();
        check.due("NONE", -1, TourChain.NONE);
        small.dueUnbuilt("new", x);
        check.due("new, a symbol 2", NONE, x.rule(0, 2, 0, 0, 0));
        check.due("new, a state 2", NONE, x.rule(0, 0, 2, 0, 0));
        check.due("new, a cell 2", false, x.input(2, 0));
        check.due("new, build()", 3085, x.build());
        check.due("new, count(0)", 17, x.count(0));
        check.due("new, solve()", 0, () -> x.solve() ? 1 : 0);
        check.due("new, cell 0 is 0", 0, x.literal(16, 0));
        check.due("new, cell 1 is 0", 4, x.literal(17, 0));
        check.due("new, a first rule", 0, x.rule(0, 1, 1, 1, 2));
        check.due("new, cell 1", true, x.input(1, 1));
    }

    private static void promise2Machine() {
        for (int q = 2; q <= 3; q++) {
            for (int g = 2; g <= 3; g++) {
                for (int t = 1; t <= 3; t++) {
                    TourChain x = SmallChain.solved();
                    String call = "machine(" + q + ", " + g + ", " + t + ")";
                    check.due(call, true, x.machine(q, g, t));
                    small.dueUnbuilt(call, x);
                    x.build();
                    int rows = t + 1;
                    check.due(call + ", count(0)", rows * rows * g + rows * rows + rows * q + t, x.count(0));
                }
            }
        }
        TourChain x = SmallChain.unbuilt();
        x.input(1, 1);
        x.machine(2, 2, 1);
        check.due("machine, build() without rules", 3085, x.build());
        check.due("machine, the input is 0 anew", 4, x.literal(17, 0));
        check.due("machine, a first rule anew", 0, x.rule(0, 0, 1, 1, 1));
    }

    private static void promise2MachineRefused() {
        int[][] wrong = {{1, 2, 1}, {4, 2, 1}, {2, 1, 1}, {2, 4, 1}, {2, 2, 0}, {2, 2, 4}, {LOW, 2, 1}, {HIGH, 2, 1},
            {2, LOW, 1}, {2, HIGH, 1}, {2, 2, LOW}, {2, 2, HIGH}, {-1, -1, -1}};
        TourChain x = SmallChain.solved();
        for (int[] w : wrong) {
            String call = "machine(" + w[0] + ", " + w[1] + ", " + w[2] + ")";
            check.due(call, false, x.machine(w[0], w[1], w[2]));
            small.dueSolved(call, x);
        }
        check.due("machine refused, the rule is there still", 1, x.rule(0, 0, 1, 1, 1));
    }

    private static void promise3Rule() {
        TourChain x = SmallChain.solved();
        check.due("rule, a second one", 1, x.rule(0, 1, 0, 0, 0));
        small.dueUnbuilt("rule", x);
        for (int k = 2; k < 8; k++) {
            check.due("rule, one more", k, x.rule(0, k % 2, k % 2, 1, k % 3));
        }
        int cities = x.build();
        x.solve();
        check.due("rule, a ninth", NONE, x.rule(0, 0, 1, 1, 1));
        check.due("rule, a ninth, count(7)", cities, x.count(7));
        check.due("rule, a ninth, choice(0)", 0, x.choice(0));
        check.due("rule, a ninth, count(0)", 8 + 4 + 4 + 9, x.count(0));
        x.machine(3, 3, 3);
        check.due("rule, all at the most", 0, x.rule(1, 2, 2, 2, 2));
        check.due("rule, all at the least", 1, x.rule(0, 0, 0, 0, 0));
    }

    private static void promise3RuleRefused() {
        int[][] wrong = {{1, 0, 0, 0, 0}, {2, 0, 0, 0, 0}, {-1, 0, 0, 0, 0}, {0, -1, 0, 0, 0}, {0, 2, 0, 0, 0},
            {0, 0, -1, 0, 0}, {0, 0, 2, 0, 0}, {0, 0, 0, -1, 0}, {0, 0, 0, 2, 0}, {0, 0, 0, 0, -1}, {0, 0, 0, 0, 3},
            {LOW, 0, 0, 0, 0}, {0, HIGH, 0, 0, 0}, {0, 0, LOW, 0, 0}, {0, 0, 0, HIGH, 0}, {0, 0, 0, 0, LOW}};
        TourChain x = SmallChain.solved();
        for (int[] w : wrong) {
            String call = "rule(" + w[0] + ", " + w[1] + ", " + w[2] + ", " + w[3] + ", " + w[4] + ")";
            check.due(call, NONE, x.rule(w[0], w[1], w[2], w[3], w[4]));
            small.dueSolved(call, x);
        }
        TourChain three = new TourChain();
        three.machine(3, 3, 1);
        check.due("rule from ACCEPT of three", NONE, three.rule(2, 0, 0, 0, 0));
        check.due("rule to a state 3", NONE, three.rule(0, 0, 3, 0, 0));
        check.due("rule at a symbol 3", NONE, three.rule(0, 3, 0, 0, 0));
        check.due("rule writing a symbol 3", NONE, three.rule(0, 0, 0, 3, 0));
        check.due("rule, none was taken", 0, three.rule(1, 2, 0, 2, 1));
    }

    private static void promise4Input() {
        TourChain x = SmallChain.solved();
        int[][] wrong = {{-1, 0}, {2, 0}, {0, -1}, {0, 2}, {LOW, 0}, {HIGH, 0}, {0, LOW}, {0, HIGH}};
        for (int[] w : wrong) {
            String call = "input(" + w[0] + ", " + w[1] + ")";
            check.due(call, false, x.input(w[0], w[1]));
            small.dueSolved(call, x);
        }
        check.due("input(0, 0), as it was", true, x.input(0, 0));
        small.dueUnbuilt("input(0, 0)", x);
        check.due("input(1, 1)", true, x.input(1, 1));
        x.build();
        check.due("input(1, 1), cell 0", 0, x.literal(16, 0));
        check.due("input(1, 1), cell 1", 6, x.literal(17, 0));
        x.machine(3, 3, 3);
        check.due("input(3, 2)", true, x.input(3, 2));
        check.due("input(4, 0)", false, x.input(4, 0));
        check.due("input(0, 3)", false, x.input(0, 3));
    }

    private static void promise5Build() {
        TourChain x = SmallChain.unbuilt();
        check.due("build()", SmallChain.CITIES, x.build());
        small.dueNoRun("build()", x);
        x.solve();
        check.due("build() once more", SmallChain.CITIES, x.build());
        small.dueNoRun("build() once more", x);
        check.due("build() once more, count(1)", 42, x.count(1));
        check.due("build() once more, solve()", 1, () -> x.solve() ? 1 : 0);
        x.machine(3, 3, 3);
        for (int k = 0; k < 8; k++) {
            x.rule(0, 0, 1, 1, 1);
        }
        check.due("build() of the largest", 46641, x.build());
        x.machine(2, 2, 1);
        check.due("build() of the smallest behind it", 3085, x.build());
    }

    private static void promise6Count() {
        TourChain x = SmallChain.unbuilt();
        dueCounts(x, NONE, NONE, NONE, NONE, NONE, NONE, NONE, NONE);
        x.build();
        dueCounts(x, 18, 42, 22, 46, 182, 298, 114, SmallChain.CITIES);
        for (int what : new int[] {-1, 8, 9, LOW, HIGH}) {
            check.due("count(" + what + ")", NONE, x.count(what));
        }
        x.machine(3, 3, 3);
        for (int k = 0; k < 8; k++) {
            x.rule(1, 2, 0, 1, 1);
        }
        x.build();
        dueCounts(x, 103, 544, 161, 602, 2128, 3773, 1365, 46641);
    }

    private static void dueCounts(TourChain x, int... want) {
        for (int what = 0; what < want.length; what++) {
            check.due("count(" + what + ")", want[what], x.count(what));
        }
    }

    private static void promise7Literal() {
        TourChain x = SmallChain.unbuilt();
        x.build();
        for (int clause = 0; clause < SMALL_CLAUSES.length; clause++) {
            int[] want = SMALL_CLAUSES[clause];
            for (int i = 0; i < want.length; i++) {
                check.due("literal(" + clause + ", " + i + ")", want[i], x.literal(clause, i));
            }
            check.due("literal(" + clause + ", -1)", NONE, x.literal(clause, -1));
            check.due("literal(" + clause + ", its length)", NONE, x.literal(clause, want.length));
        }
        int[][] wrong = {{-1, 0}, {42, 0}, {LOW, 0}, {HIGH, 0}, {0, LOW}, {0, HIGH}, {HIGH, HIGH}};
        for (int[] w : wrong) {
            check.due("literal(" + w[0] + ", " + w[1] + ")", NONE, x.literal(w[0], w[1]));
        }
    }

    private static void promise7LiteralAtTheBorders() {
        TourChain x = new TourChain();
        x.rule(0, 0, 0, 0, 0);
        x.rule(0, 1, 1, 1, 2);
        x.build();
        // K 16, 17, 18; the rules' clauses are 22 .. 29 and 30 .. 37; the last of each three is the head's.
        dueClause(x, 26, 33, 17);
        dueClause(x, 29, 33, 19, 20);
        dueClause(x, 34, 35, 17, 22);
        dueClause(x, 37, 35, 19);
        dueClause(x, 21, 32, 34, 36);
    }

    private static void dueClause(TourChain x, int clause, int... want) {
        for (int i = 0; i < want.length; i++) {
            check.due("literal(" + clause + ", " + i + ")", want[i], x.literal(clause, i));
        }
        check.due("literal(" + clause + ", " + want.length + ")", NONE, x.literal(clause, want.length));
    }

    private static void promise8Three() {
        TourChain x = SmallChain.unbuilt();
        x.build();
        dueThree(x, 0, 0, 2, 2);
        dueThree(x, 1, 1, 3, 3);
        dueThree(x, 16, 0, 0, 0);
        dueThree(x, 24, 33, 17, 0);
        dueThree(x, 33, 35, 17, 36);
        dueThree(x, 34, 37, 1, 8);
        dueThree(x, 35, 35, 17, 38);
        dueThree(x, 36, 39, 3, 10);
        dueThree(x, 45, 18, 7, 14);
        int[][] wrong = {{-1, 0}, {46, 0}, {0, -1}, {0, 3}, {LOW, 0}, {HIGH, 0}, {0, LOW}, {0, HIGH}};
        for (int[] w : wrong) {
            check.due("three(" + w[0] + ", " + w[1] + ")", NONE, x.three(w[0], w[1]));
        }
        for (int k = 1; k < 8; k++) {
            x.rule(0, 0, 0, 0, 1);
        }
        x.build();
        // Variables 0 .. 24; the clause of K is 21, of nine literals, so that y are 25 .. 30.
        dueThree(x, 21, 32, 34, 50);
        dueThree(x, 22, 51, 36, 52);
        dueThree(x, 23, 53, 38, 54);
        dueThree(x, 24, 55, 40, 56);
        dueThree(x, 25, 57, 42, 58);
        dueThree(x, 26, 59, 44, 60);
        dueThree(x, 27, 61, 46, 48);
        dueThree(x, 28, 33, 24, 24);
    }

    private static void dueThree(TourChain x, int j, int a, int b, int c) {
        check.due("three(" + j + ", 0)", a, x.three(j, 0));
        check.due("three(" + j + ", 1)", b, x.three(j, 1));
        check.due("three(" + j + ", 2)", c, x.three(j, 2));
    }

    private static void promise9End() {
        TourChain x = SmallChain.unbuilt();
        x.build();
        dueEdge(x, 0, 0, 1);
        dueEdge(x, 21, 42, 43);
        dueEdge(x, 22, 44, 45);
        dueEdge(x, 23, 45, 46);
        dueEdge(x, 24, 44, 46);
        dueEdge(x, 25, 44, 0);
        dueEdge(x, 26, 45, 2);
        dueEdge(x, 27, 46, 2);
        dueEdge(x, 28, 47, 48);
        dueEdge(x, 297, 181, 14);
        int[][] wrong = {{-1, 0}, {298, 0}, {0, -1}, {0, 2}, {LOW, 0}, {HIGH, 0}, {0, LOW}, {0, HIGH}};
        for (int[] w : wrong) {
            check.due("end(" + w[0] + ", " + w[1] + ")", NONE, x.end(w[0], w[1]));
        }
    }

    private static void dueEdge(TourChain x, int edge, int a, int b) {
        check.due("end(" + edge + ", 0)", a, x.end(edge, 0));
        check.due("end(" + edge + ", 1)", b, x.end(edge, 1));
    }

    private static void promise10Apart() {
        TourChain x = SmallChain.unbuilt();
        x.build();
        for (int a = 0; a < 12; a++) {
            for (int b = 0; b < 12; b++) {
                boolean side = a / 6 == b / 6 && Math.abs(a - b) == 1;
                int low = Math.min(a, b);
                int high = Math.max(a, b);
                boolean across = low == 2 && high == 6 || low == 0 && high == 8 || low == 5 && high == 9
                    || low == 3 && high == 11;
                dueApart(x, a, b, a == b ? 0 : side || across ? 1 : 2);
            }
        }
        // Vertex 0 is at edges 0 (end 0), 25, 121, 122, 123 and 171 (end 1), the last one of literal 0.
        dueApart(x, 5, 306, 1);
        dueApart(x, 5, 300, 2);
        dueApart(x, 0, 311, 2);
        dueApart(x, 5, 1458, 2);
        dueApart(x, 311, 1458, 1);
        dueApart(x, 1463, 1470, 1);
        dueApart(x, 1475, 1482, 1);
        dueApart(x, 1487, 2058, 1);
        for (int selector = 3576; selector < SmallChain.CITIES; selector += 113) {
            dueApart(x, selector, 0, 1);
            dueApart(x, selector, 5, 2);
            dueApart(x, selector, 1, 2);
            dueApart(x, selector, 306, 2);
            dueApart(x, selector, 2063, 1);
            dueApart(x, selector, 2058, 2);
        }
        dueApart(x, 3576, 3577, 2);
        dueApart(x, 3689, 3689, 0);
        // The last edge of all is literal 14's last one too.
        dueApart(x, 3575, 3576, 1);
        dueApart(x, 3574, 3576, 2);
        int[][] wrong = {{-1, 0}, {-1, -1}, {0, SmallChain.CITIES}, {SmallChain.CITIES, SmallChain.CITIES}, {LOW, 0}, {HIGH, HIGH}};
        for (int[] w : wrong) {
            dueApart(x, w[0], w[1], NONE);
        }
    }

    private static void dueApart(TourChain x, int a, int b, int want) {
        check.due("apart(" + a + ", " + b + ")", want, x.apart(a, b));
        check.due("apart(" + b + ", " + a + ")", want, x.apart(b, a));
    }

    private static void promise11Solve() {
        TourChain x = SmallChain.unbuilt();
        check.due("solve(), not built", Check.STATE, () -> x.solve() ? 1 : 0);
        x.build();
        check.due("solve()", 1, () -> x.solve() ? 1 : 0);
        small.dueSolved("solve()", x);
        x.put(0, 7);
        x.turn(9, true);
        check.due("solve() again", 1, () -> x.solve() ? 1 : 0);
        small.dueSolved("solve() again lays the trip anew", x);
        x.input(0, 1);
        x.build();
        check.due("solve() without a run", 0, () -> x.solve() ? 1 : 0);
        small.dueNoRun("solve() without a run", x);
        // The head can't leave the cells, on either side.
        x.machine(2, 2, 1);
        x.rule(0, 0, 1, 0, 0);
        x.build();
        check.due("solve(), left of cell 0", 0, () -> x.solve() ? 1 : 0);
        x.machine(3, 2, 2);
        x.rule(0, 0, 1, 0, 2);
        x.rule(1, 0, 2, 0, 2);
        x.build();
        check.due("solve(), on the last cell", 1, () -> x.solve() ? 1 : 0);
        x.machine(2, 2, 3);
        x.rule(0, 0, 0, 0, 2);
        x.build();
        check.due("solve() that never accepts", 0, () -> x.solve() ? 1 : 0);
    }

    private static void promise11SolveLowest() {
        TourChain x = new TourChain();
        x.machine(3, 2, 3);
        x.rule(0, 1, 2, 0, 1);
        x.rule(0, 0, 1, 1, 1);
        x.rule(0, 0, 0, 0, 1);
        x.rule(1, 1, 2, 0, 1);
        x.rule(0, 0, 2, 0, 1);
        x.build();
        // 1 3 REST comes before 2 1 3, 2 2 4, 2 4 REST and 4 REST REST.
        check.due("solve(), the lowest", 1, () -> x.solve() ? 1 : 0);
        dueChoices(x, 1, 3, 5);
        x.input(0, 1);
        x.build();
        check.due("solve(), at symbol 1", 1, () -> x.solve() ? 1 : 0);
        dueChoices(x, 0, 5, 5);
    }

    private static void dueChoices(TourChain x, int... want) {
        for (int i = 0; i < want.length; i++) {
            check.due("choice(" + i + ")", want[i], x.choice(i));
        }
        check.due("choice(" + want.length + ")", NONE, x.choice(want.length));
    }

    private static void promise12Choice() {
        TourChain x = new TourChain();
        x.machine(2, 2, 3);
        x.rule(0, 1, 1, 0, 1);
        x.rule(0, 0, 0, 0, 2);
        x.input(2, 1);
        x.build();
        x.solve();
        dueChoices(x, 1, 1, 0);
        for (int i : new int[] {-1, 3, LOW, HIGH}) {
            check.due("choice(" + i + ")", NONE, x.choice(i));
        }
    }

    private static void promise13Truth() {
        TourChain x = SmallChain.solved();
        for (int v = 0; v < SmallChain.VARIABLES; v++) {
            check.due("truth(" + v + ")", isSmallTrue(v) ? 1 : 0, x.truth(v));
        }
        for (int v : new int[] {-1, SmallChain.VARIABLES, LOW, HIGH}) {
            check.due("truth(" + v + ")", NONE, x.truth(v));
        }
        // The rule that is used is the last of four: K is 16 .. 20, y of its clause 21 and 22.
        x.machine(2, 2, 1);
        for (int k = 0; k < 3; k++) {
            x.rule(0, 1, 0, 0, 1);
        }
        x.rule(0, 0, 1, 0, 2);
        x.build();
        x.solve();
        int[] want = {0, 0, 0, 1, 0, 1, 1, 0, 0, 0, 0};
        for (int i = 0; i < want.length; i++) {
            check.due("truth(" + (16 + i) + ") of the last rule", want[i], x.truth(16 + i));
        }
        check.due("the head's way", 1, x.truth(11));
    }

    private static boolean isSmallTrue(int variable) {
        for (int x : SMALL_TRUE) {
            if (x == variable) {
                return true;
            }
        }
        return false;
    }

    private static void promise14Covers() {
        TourChain x = SmallChain.solved();
        for (int v = 0; v < SmallChain.VARIABLES; v++) {
            check.due("covers(" + 2 * v + ")", isSmallTrue(v) ? 1 : 0, x.covers(2 * v));
            check.due("covers(" + (2 * v + 1) + ")", isSmallTrue(v) ? 0 : 1, x.covers(2 * v + 1));
        }
        dueCoverOfThree(x, 0, 0);
        dueCoverOfThree(x, 1, 1);
        dueCoverOfThree(x, 16, 0);
        dueCoverOfThree(x, 24, 2);
        dueCoverOfThree(x, 33, 0);
        dueCoverOfThree(x, 34, 0);
        for (int vertex : new int[] {-1, 182, LOW, HIGH}) {
            check.due("covers(" + vertex + ")", NONE, x.covers(vertex));
        }
        check.due("covers(181)", 1, x.covers(181));
    }

    private static void dueCoverOfThree(TourChain x, int j, int out) {
        for (int i = 0; i < 3; i++) {
            check.due("covers, literal " + i + " of three " + j, i == out ? 0 : 1, x.covers(44 + 3 * j + i));
        }
    }

    private static void promise15City() {
        TourChain x = SmallChain.solved();
        int[] begin = {3576, 0, 1, 2, 6, 7, 8, 9, 10, 11, 3, 4, 5,
            306, 307, 308, 300, 301, 302, 303, 304, 305, 309, 310, 311,
            1458, 1459, 1460, 1452, 1453, 1454, 1455, 1456, 1457, 1461, 1462, 1463,
            1470, 1471, 1472, 1473, 1474, 1475, 1482, 1483, 1484, 1485, 1486, 1487,
            2058, 2059, 2060, 2052, 2053, 2054, 2055, 2056, 2057, 2061, 2062, 2063, 3577};
        for (int i = 0; i < begin.length; i++) {
            check.due("city(" + i + ")", begin[i], x.city(i));
        }
        // The last vertex of the cover is 181, with edges 293, 294 and 297: the last three is 18, 7, 14, and 7 is out.
        int[] end = {3689, 3522, 3523, 3524, 3516, 3517, 3518, 3519, 3520, 3521, 3525, 3526, 3527,
            3534, 3535, 3536, 3537, 3538, 3539, 3564, 3565, 3566, 3570, 3571, 3572, 3573, 3574, 3575,
            3567, 3568, 3569};
        for (int i = 0; i < end.length; i++) {
            int place = SmallChain.CITIES - end.length + i;
            check.due("city(" + place + ")", end[i], x.city(place));
        }
        for (int i : new int[] {-1, SmallChain.CITIES, LOW, HIGH}) {
            check.due("city(" + i + ")", NONE, x.city(i));
        }
    }

    private static void promise16Put() {
        TourChain x = SmallChain.solved();
        check.due("put(1, 77)", 0, () -> x.put(1, 77));
        check.due("put(1, 77), city(1)", 77, x.city(1));
        check.due("put(1, 77), city(2)", 1, x.city(2));
        check.due("put(1, 3689)", 77, () -> x.put(1, 3689));
        check.due("put(1, 3689) again", 3689, () -> x.put(1, 3689));
        check.due("put(3689, 0)", 3569, () -> x.put(3689, 0));
        check.due("put, the run stays", 0, x.choice(0));
        int[][] wrong = {{-1, 0}, {SmallChain.CITIES, 0}, {0, -1}, {0, SmallChain.CITIES}, {LOW, 0}, {HIGH, 0}, {0, LOW}, {0, HIGH}};
        for (int[] w : wrong) {
            check.due("put(" + w[0] + ", " + w[1] + ")", Check.ARGUMENT, () -> x.put(w[0], w[1]));
        }
        check.due("put refused, city(0)", 3576, x.city(0));
        x.turn(1, true);
        check.due("put behind a turn, the last is", 3689, () -> x.put(3689, 5));
        check.due("put behind a turn, city(3689)", 5, x.city(3689));
        x.turn(3689, false);
        check.due("put behind a turn, it is the first now", 5, x.city(0));
    }

    private static void promise17Turn() {
        TourChain x = SmallChain.solved();
        x.turn(0, false);
        small.dueSolved("turn(0, false)", x);
        x.turn(1, false);
        check.due("turn(1, false), city(0)", 0, x.city(0));
        check.due("turn(1, false), city(3689)", 3576, x.city(3689));
        x.turn(3689, false);
        small.dueSolved("turn(3689, false) behind it", x);
        x.turn(0, true);
        check.due("turn(0, true), city(0)", 3569, x.city(0));
        check.due("turn(0, true), city(3689)", 3576, x.city(3689));
        x.turn(3687, false);
        check.due("turn(3687, false) behind it, city(0)", 1, x.city(0));
        check.due("turn(3687, false) behind it, city(2)", 3576, x.city(2));
        check.due("turn(3687, false) behind it, city(3)", 3569, x.city(3));
        x.turn(2, true);
        check.due("turn(2, true) behind it, city(0)", 0, x.city(0));
        check.due("turn(2, true) behind it, city(3689)", 3576, x.city(3689));
        for (int n : new int[] {-1, SmallChain.CITIES, LOW, HIGH}) {
            check.due("turn(" + n + ", true)", Check.ARGUMENT, () -> { x.turn(n, true); return 0; });
        }
        check.due("turn refused, city(0)", 0, x.city(0));
    }

    private static void promise18Cost() {
        TourChain x = SmallChain.solved();
        check.due("cost()", SmallChain.CITIES, () -> x.cost());
        x.turn(100, true);
        check.due("cost(), turned", SmallChain.CITIES, () -> x.cost());
        x.solve();
        x.put(1, 1);
        check.due("cost(), a city twice", NONE, () -> x.cost());
        x.put(2, 0);
        // 3576 1 0 2: selector and 1, and 0 and 2, have no road.
        check.due("cost(), two swapped", SmallChain.CITIES + 2, () -> x.cost());
        x.solve();
        x.put(0, 3569);
        x.put(3689, 3576);
        // .. 3568 3576 3569 0 ..: the way back counts, and so do the roads of 3569 that are no more.
        check.due("cost(), over the end", SmallChain.CITIES + 2, () -> x.cost());
        x.solve();
        x.put(0, 3577);
        check.due("cost(), a selector missing", NONE, () -> x.cost());
        x.put(61, 3576);
        check.due("cost(), two selectors swapped", SmallChain.CITIES, () -> x.cost());
    }

    private static void promise19Pull() {
        TourChain x = new TourChain();
        x.machine(3, 2, 3);
        x.rule(0, 0, 0, 1, 2);
        x.rule(0, 1, 1, 1, 1);
        x.rule(0, 0, 1, 1, 2);
        x.rule(1, 0, 2, 1, 0);
        x.input(2, 1);
        int cities = x.build();
        x.solve();
        check.due("pull()", 1, () -> x.pull() ? 1 : 0);
        dueChoices(x, 2, 3, 4);
        x.turn(12345, true);
        int first = x.city(0);
        check.due("pull(), turned", 1, () -> x.pull() ? 1 : 0);
        dueChoices(x, 2, 3, 4);
        check.due("pull(), the trip stays", first, x.city(0));
        x.put(0, x.put(1, first));
        check.due("pull(), two swapped", 0, () -> x.pull() ? 1 : 0);
        dueChoices(x, 2, 3, 4);
        check.due("pull() refused, the trip stays", first, x.city(1));
        x.put(0, first);
        check.due("pull(), a city twice", 0, () -> x.pull() ? 1 : 0);
        check.due("pull() refused, truth(0)", 1, x.truth(0));
        check.due("pull() refused, count(7)", cities, x.count(7));
        check.due("pull() refused, replay()", 1, () -> x.replay() ? 1 : 0);
    }

    /** The choice must be found whichever selector stands before its vertex, and wherever the trip begins. */
    private static void promise19PullSelectors() {
        TourChain x = SmallChain.solved();
        // Literal 32, that the rule is the choice, is the 17th vertex of the cover.
        int place = 802;
        check.due("the selector before literal 32", 3592, x.city(place));
        check.due("the first city of literal 32", 192, x.city(place + 1));
        for (int selector : new int[] {3576, 3689}) {
            x.solve();
            x.put(selector == 3576 ? 0 : 3659, 3592);
            x.put(place, selector);
            check.due("pull(), selector " + selector + " there", 1, () -> x.pull() ? 1 : 0);
            dueChoices(x, 0);
            x.turn(place + 1, false);
            check.due("pull(), with it at the end", 1, () -> x.pull() ? 1 : 0);
            dueChoices(x, 0);
            x.turn(0, true);
            check.due("pull(), turned round", 1, () -> x.pull() ? 1 : 0);
            dueChoices(x, 0);
        }
    }

    private static void promise20Replay() {
        TourChain x = SmallChain.unbuilt();
        check.due("replay(), not built", Check.STATE, () -> x.replay() ? 1 : 0);
        x.build();
        check.due("replay(), not solved", Check.STATE, () -> x.replay() ? 1 : 0);
        x.solve();
        check.due("replay()", 1, () -> x.replay() ? 1 : 0);
        x.pull();
        check.due("replay() behind pull()", 1, () -> x.replay() ? 1 : 0);
        small.dueSolved("replay()", x);
        check.due("replay(), truth(5)", 1, x.truth(5));
    }
}
