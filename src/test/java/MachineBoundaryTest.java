/** Promises 1 to 5: each sentence that names a boundary case has a test of its own here. */
public final class MachineBoundaryTest {
    private static final int NONE = TourChain.NONE;
    private static final int LOW = Integer.MIN_VALUE;
    private static final int HIGH = Integer.MAX_VALUE;

    private static final Check check = new Check();
    private static final SmallChain small = new SmallChain(check);

    public static void main(String[] args) {
        newObjectHasTwoStates();
        newObjectHasTwoSymbols();
        newObjectHasBoundOne();
        newObjectHasNoRules();
        newObjectIsNotBuilt();
        machineIsNew();
        machineIsNotBuilt();
        machineOfAllSizes();
        machineOfOtherSizes();
        machineRefusedChangesNothing();
        ruleTellsItsNumber();
        ruleMakesNotBuilt();
        ruleRefusedWhenThereAreEight();
        ruleOfAllNumbers();
        ruleOfOtherNumbers();
        ruleRefusedChangesNothing();
        inputOfAllCells();
        inputMakesNotBuilt();
        inputOfOtherCells();
        inputOfOtherSymbols();
        inputRefusedChangesNothing();
        buildAlsoOnceMore();
        buildBehindOtherSizes();
        buildLeavesNoRunNoTrip();
        check.end();
    }

    private static void newObjectHasTwoStates() {
        check.sentence("Promise 1", "A machine with two states");
        TourChain x = new TourChain();
        check.due("rule to state 2", NONE, x.rule(0, 0, 2, 0, 1));
        check.due("rule in state 1, ACCEPT", NONE, x.rule(1, 0, 0, 0, 1));
        check.due("rule in state 0 to state 1", 0, x.rule(0, 0, 1, 0, 1));
    }

    private static void newObjectHasTwoSymbols() {
        check.sentence("Promise 1", "two symbols");
        TourChain x = new TourChain();
        check.due("rule at symbol 2", NONE, x.rule(0, 2, 0, 0, 1));
        check.due("rule writing 2", NONE, x.rule(0, 0, 0, 2, 1));
        check.due("input(0, 2)", false, x.input(0, 2));
        check.due("input(0, 1)", true, x.input(0, 1));
    }

    private static void newObjectHasBoundOne() {
        check.sentence("Promise 1", "bound 1");
        TourChain x = new TourChain();
        check.due("input(2, 0)", false, x.input(2, 0));
        check.due("input(1, 0)", true, x.input(1, 0));
        x.build();
        // C 8, H 4, Q 4, K 1.
        check.due("count(0)", 17, x.count(0));
    }

    private static void newObjectHasNoRules() {
        check.sentence("Promise 1", "no rules");
        TourChain x = new TourChain();
        x.build();
        check.due("count(1)", 34, x.count(1));
        check.due("solve()", false, x.solve());
        check.due("the first rule", 0, x.rule(0, 0, 0, 0, 0));
    }

    private static void newObjectIsNotBuilt() {
        check.sentence("Promise 1", "not built");
        small.dueUnbuilt("new", new TourChain());
    }

    private static void machineIsNew() {
        check.sentence("Promise 2", "A new machine");
        TourChain x = SmallChain.solved();
        x.input(0, 1);
        x.input(1, 1);
        check.due("machine(2, 2, 1), the same sizes", true, x.machine(2, 2, 1));
        check.due("build(), no rule is left", 3085, x.build());
        check.due("cell 0 is 0", 0, x.literal(16, 0));
        check.due("cell 1 is 0", 4, x.literal(17, 0));
        check.due("the first rule", 0, x.rule(0, 0, 1, 1, 1));
        // What a larger machine had in cells that the next one has not must not come back with a third one.
        x.machine(2, 2, 3);
        x.input(3, 1);
        x.machine(2, 2, 1);
        x.machine(2, 2, 3);
        x.build();
        check.due("cell 3 is 0", 2 * (3 * 2), x.literal(clausesOfRows(2, 2, 3) + 3, 0));
    }

    /** How many clauses stand before those of the input. */
    private static int clausesOfRows(int q, int g, int t) {
        int rows = t + 1;
        return rows * rows * (1 + pairs(g)) + rows * (1 + pairs(rows)) + rows * (1 + pairs(q));
    }

    private static int pairs(int n) {
        return n * (n - 1) / 2;
    }

    private static void machineIsNotBuilt() {
        check.sentence("Promise 2", "not built (then there is no run and no trip)");
        for (SmallChain.State state : SmallChain.State.values()) {
            TourChain x = state.make();
            check.due(state + ", machine(2, 2, 1)", true, x.machine(2, 2, 1));
            small.dueUnbuilt(state + ", machine(2, 2, 1)", x);
        }
    }

    private static void machineOfAllSizes() {
        check.sentence("Terms",
            "STATES 0 .. q - 1 (q 2 or 3; ACCEPT is q - 1), SYMBOLS 0 .. g - 1 (g 2 or 3), a BOUND t 1 .. 3");
        for (int q = 2; q <= 3; q++) {
            for (int g = 2; g <= 3; g++) {
                for (int t = 1; t <= 3; t++) {
                    TourChain x = new TourChain();
                    String call = "machine(" + q + ", " + g + ", " + t + ")";
                    check.due(call, true, x.machine(q, g, t));
                    x.build();
                    int rows = t + 1;
                    check.due(call + ", count(0)", rows * rows * (g + 1) + rows * q + t, x.count(0));
                    check.due(call + ", the last cell and symbol", true, x.input(t, g - 1));
                    check.due(call + ", the last states", 0, x.rule(q - 2, 0, q - 1, 0, 0));
                }
            }
        }
    }

    private static void machineOfOtherSizes() {
        check.sentence("Promise 2", "False, refused, when a number is not as said.");
        for (int wrong : new int[] {1, 4, 0, -1, -2, LOW, HIGH}) {
            check.due("machine(" + wrong + ", 2, 1)", false, new TourChain().machine(wrong, 2, 1));
            check.due("machine(" + wrong + ", 3, 3)", false, new TourChain().machine(wrong, 3, 3));
            check.due("machine(2, " + wrong + ", 1)", false, new TourChain().machine(2, wrong, 1));
            check.due("machine(3, " + wrong + ", 3)", false, new TourChain().machine(3, wrong, 3));
        }
        for (int wrong : new int[] {0, 4, -1, LOW, HIGH}) {
            check.due("machine(2, 2, " + wrong + ")", false, new TourChain().machine(2, 2, wrong));
            check.due("machine(3, 3, " + wrong + ")", false, new TourChain().machine(3, 3, wrong));
        }
    }

    private static void machineRefusedChangesNothing() {
        check.sentence("Promise 2, nothing is changed", "False, refused");
        int[][] wrong = {{1, 2, 1}, {4, 2, 1}, {2, 1, 1}, {2, 4, 1}, {2, 2, 0}, {2, 2, 4}, {3, 3, 4}};
        for (int[] w : wrong) {
            String call = "machine(" + w[0] + ", " + w[1] + ", " + w[2] + ")";
            TourChain x = SmallChain.solved();
            long[] before = Answers.of(x);
            x.machine(w[0], w[1], w[2]);
            Answers.compare(check, call, before, x);
            TourChain unbuilt = SmallChain.unbuilt();
            unbuilt.input(1, 1);
            unbuilt.machine(w[0], w[1], w[2]);
            dueStillSmall(call, unbuilt);
        }
    }

    /** That an object, not built, has the small machine's sizes and its one rule still, and 1 in cell 1. */
    private static void dueStillSmall(String after, TourChain x) {
        check.due(after + ", count(7)", NONE, x.count(7));
        check.due(after + ", build()", SmallChain.CITIES, x.build());
        check.due(after + ", count(0)", 18, x.count(0));
        check.due(after + ", cell 0", 0, x.literal(16, 0));
        check.due(after + ", cell 1", 6, x.literal(17, 0));
        check.due(after + ", the next rule", 1, x.rule(0, 0, 0, 0, 0));
    }

    private static void ruleTellsItsNumber() {
        check.sentence("Promise 3", "A rule more: its number");
        TourChain x = new TourChain();
        for (int k = 0; k < 8; k++) {
            check.due("rule " + k, k, x.rule(0, 0, 1, 1, 1));
        }
        check.due("build() with all", true, x.build() > 0);
        check.due("K 0 .. 8", 8 + 4 + 4 + 9, x.count(0));
    }

    private static void ruleMakesNotBuilt() {
        check.sentence("Promise 3", "it is not built then");
        for (SmallChain.State state : SmallChain.State.values()) {
            TourChain x = state.make();
            check.due(state + ", rule", true, x.rule(0, 0, 1, 1, 1) >= 0);
            small.dueUnbuilt(state + ", rule", x);
        }
    }

    private static TourChain withRules(int n) {
        TourChain x = new TourChain();
        for (int k = 0; k < n; k++) {
            x.rule(0, 0, 1, 1, 1);
        }
        return x;
    }

    private static void ruleRefusedWhenThereAreEight() {
        check.sentence("Promise 3", "NONE, refused, when there are 8");
        check.due("an eighth", 7, withRules(7).rule(0, 0, 1, 1, 1));
        TourChain x = withRules(8);
        check.due("a ninth", NONE, x.rule(0, 0, 1, 1, 1));
        check.due("a tenth", NONE, x.rule(0, 0, 1, 1, 1));
        int cities = x.build();
        check.due("build(), eight rules", withRules(8).build(), cities);
        x.solve();
        x.turn(1, false);
        check.due("a ninth behind solve", NONE, x.rule(0, 0, 1, 1, 1));
        check.due("a ninth behind solve, count(7)", cities, x.count(7));
        check.due("a ninth behind solve, choice(0)", 0, x.choice(0));
        check.due("a ninth behind solve, city(0)", 0, x.city(0));
        x.machine(2, 2, 1);
        check.due("a first one of the next machine", 0, x.rule(0, 0, 1, 1, 1));
    }

    private static void ruleOfAllNumbers() {
        check.sentence("Terms",
            "in a state s (not ACCEPT), at a symbol a, to a state s2, writing b, moving by d - 1 (d 0, 1, 2)");
        for (int q = 2; q <= 3; q++) {
            for (int g = 2; g <= 3; g++) {
                TourChain x = new TourChain();
                x.machine(q, g, 1);
                check.due("rule, all at the least", 0, x.rule(0, 0, 0, 0, 0));
                check.due("rule, the last state but ACCEPT", 1, x.rule(q - 2, 0, 0, 0, 0));
                check.due("rule, the last symbol", 2, x.rule(0, g - 1, 0, 0, 0));
                check.due("rule, to ACCEPT", 3, x.rule(0, 0, q - 1, 0, 0));
                check.due("rule, writing the last symbol", 4, x.rule(0, 0, 0, g - 1, 0));
                check.due("rule, d 1", 5, x.rule(0, 0, 0, 0, 1));
                check.due("rule, d 2", 6, x.rule(0, 0, 0, 0, 2));
                check.due("rule, all at the most", 7, x.rule(q - 2, g - 1, q - 1, g - 1, 2));
            }
        }
    }

    private static void ruleOfOtherNumbers() {
        check.sentence("Promise 3", "or a number is not as said");
        for (int q = 2; q <= 3; q++) {
            for (int g = 2; g <= 3; g++) {
                TourChain x = new TourChain();
                x.machine(q, g, 1);
                dueRefusedRules(x, 0, q - 1);
                dueRefusedRules(x, 1, g);
                dueRefusedRules(x, 2, q);
                dueRefusedRules(x, 3, g);
                dueRefusedRules(x, 4, 3);
                check.due("rule, none of these was taken", 0, x.rule(0, 0, 0, 0, 0));
            }
        }
    }

    /** That no rule is taken whose number at a place is below 0, or n and more. */
    private static void dueRefusedRules(TourChain x, int place, int n) {
        for (int wrong : new int[] {-1, n, n + 1, LOW, HIGH}) {
            int[] r = new int[5];
            r[place] = wrong;
            check.due("rule with " + wrong + " at place " + place, NONE, x.rule(r[0], r[1], r[2], r[3], r[4]));
        }
    }

    private static void ruleRefusedChangesNothing() {
        check.sentence("Promise 3, nothing is changed", "NONE, refused");
        int[][] wrong = {{1, 0, 0, 0, 0}, {-1, 0, 0, 0, 0}, {0, 2, 0, 0, 0}, {0, -1, 0, 0, 0}, {0, 0, 2, 0, 0},
            {0, 0, -1, 0, 0}, {0, 0, 0, 2, 0}, {0, 0, 0, -1, 0}, {0, 0, 0, 0, 3}, {0, 0, 0, 0, -1}};
        for (int[] w : wrong) {
            String call = "rule(" + w[0] + ", " + w[1] + ", " + w[2] + ", " + w[3] + ", " + w[4] + ")";
            TourChain x = SmallChain.solved();
            long[] before = Answers.of(x);
            x.rule(w[0], w[1], w[2], w[3], w[4]);
            Answers.compare(check, call, before, x);
            TourChain unbuilt = SmallChain.unbuilt();
            unbuilt.input(1, 1);
            unbuilt.rule(w[0], w[1], w[2], w[3], w[4]);
            dueStillSmall(call, unbuilt);
        }
    }

    private static void inputOfAllCells() {
        check.sentence("Promise 4", "A cell of the input");
        for (int g = 2; g <= 3; g++) {
            for (int t = 1; t <= 3; t++) {
                for (int cell = 0; cell <= t; cell++) {
                    for (int symbol = 0; symbol < g; symbol++) {
                        dueInput(g, t, cell, symbol);
                    }
                }
            }
        }
    }

    /** That the cell, and no other one, has the symbol; it had another one before. */
    private static void dueInput(int g, int t, int cell, int symbol) {
        TourChain x = new TourChain();
        x.machine(2, g, t);
        x.input(cell, (symbol + 1) % g);
        check.due("input(" + cell + ", " + symbol + ")", true, x.input(cell, symbol));
        x.build();
        int first = clausesOfRows(2, g, t);
        for (int p = 0; p <= t; p++) {
            check.due("cell " + p + " of the input", 2 * (p * g + (p == cell ? symbol : 0)), x.literal(first + p, 0));
        }
    }

    private static void inputMakesNotBuilt() {
        check.sentence("Promise 4", "it is not built then");
        for (SmallChain.State state : SmallChain.State.values()) {
            TourChain same = state.make();
            check.due(state + ", input(1, 0), as it was", true, same.input(1, 0));
            small.dueUnbuilt(state + ", input(1, 0), as it was", same);
            TourChain other = state.make();
            check.due(state + ", input(1, 1)", true, other.input(1, 1));
            small.dueUnbuilt(state + ", input(1, 1)", other);
        }
    }

    private static void inputOfOtherCells() {
        check.sentence("Promise 4, no cell", "False, refused, when there is no such cell or symbol.");
        for (int t = 1; t <= 3; t++) {
            TourChain x = new TourChain();
            x.machine(2, 2, t);
            for (int cell : new int[] {-1, t + 1, t + 2, LOW, HIGH}) {
                check.due("input(" + cell + ", 0), bound " + t, false, x.input(cell, 0));
            }
        }
    }

    private static void inputOfOtherSymbols() {
        check.sentence("Promise 4, no symbol", "False, refused, when there is no such cell or symbol.");
        for (int g = 2; g <= 3; g++) {
            TourChain x = new TourChain();
            x.machine(2, g, 1);
            for (int symbol : new int[] {-1, g, g + 1, LOW, HIGH}) {
                check.due("input(0, " + symbol + "), symbols " + g, false, x.input(0, symbol));
                check.due("input(1, " + symbol + "), symbols " + g, false, x.input(1, symbol));
            }
        }
    }

    private static void inputRefusedChangesNothing() {
        check.sentence("Promise 4, nothing is changed", "False, refused");
        int[][] wrong = {{-1, 1}, {2, 1}, {0, -1}, {0, 2}, {1, -1}, {1, 2}, {3, 0}};
        for (int[] w : wrong) {
            String call = "input(" + w[0] + ", " + w[1] + ")";
            TourChain x = SmallChain.solved();
            long[] before = Answers.of(x);
            x.input(w[0], w[1]);
            Answers.compare(check, call, before, x);
            TourChain unbuilt = SmallChain.unbuilt();
            unbuilt.input(1, 1);
            unbuilt.input(w[0], w[1]);
            dueStillSmall(call, unbuilt);
        }
    }

    private static void buildAlsoOnceMore() {
        check.sentence("Promise 5", "Builds all, also once more: how many cities there are");
        for (SmallChain.State state : SmallChain.State.values()) {
            if (state != SmallChain.State.MACHINE_BEHIND_SOLVE && state != SmallChain.State.RULE_BEHIND_SOLVE) {
                TourChain x = state.make();
                check.due(state + ", build()", SmallChain.CITIES, x.build());
                check.due(state + ", build() once more", SmallChain.CITIES, x.build());
                dueFirstAndLast(state + ", build() once more", x);
            }
        }
    }

    private static void dueFirstAndLast(String after, TourChain x) {
        int[] counts = {18, 42, 22, 46, 182, 298, 114, 3690};
        for (int what = 0; what < counts.length; what++) {
            check.due(after + ", count(" + what + ")", counts[what], x.count(what));
        }
        check.due(after + ", literal(0, 0)", 0, x.literal(0, 0));
        check.due(after + ", literal(41, 2)", 14, x.literal(41, 2));
        check.due(after + ", three(0, 0)", 0, x.three(0, 0));
        check.due(after + ", three(45, 2)", 14, x.three(45, 2));
        check.due(after + ", end(0, 1)", 1, x.end(0, 1));
        check.due(after + ", end(297, 0)", 181, x.end(297, 0));
        check.due(after + ", apart(5, 306)", 1, x.apart(5, 306));
    }

    private static void buildBehindOtherSizes() {
        check.sentence("Promise 5, behind other sizes", "Builds all");
        TourChain x = new TourChain();
        check.due("build() of the smallest", 3085, x.build());
        x.machine(3, 3, 3);
        for (int k = 0; k < 8; k++) {
            x.rule(0, 0, 1, 1, 1);
        }
        check.due("build() of the largest", 46641, x.build());
        check.due("build() of the largest once more", 46641, x.build());
        x.machine(2, 2, 1);
        x.rule(0, 0, 1, 1, 1);
        check.due("build() of a small one behind it", SmallChain.CITIES, x.build());
        dueFirstAndLast("build() of a small one behind it", x);
        check.due("solve()", true, x.solve());
        Answers.compare(check, "the small one behind the largest", Answers.of(SmallChain.solved()), x);
    }

    private static void buildLeavesNoRunNoTrip() {
        check.sentence("Promise 5", "there is no run, no trip");
        for (SmallChain.State state : SmallChain.State.values()) {
            TourChain x = state.make();
            x.build();
            small.dueNoRun(state + ", build()", x);
        }
    }
}
