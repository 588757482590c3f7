/** "Terms": each sentence that names a boundary case has a test of its own here. */
public final class TermsBoundaryTest {
    private static final int NONE = TourChain.NONE;

    private static final Check check = new Check();

    public static void main(String[] args) {
        acceptIsTheLastState();
        runBeginsOnCell0InState0();
        headStaysRightOfCell0();
        headStaysLeftOfTheLastCell();
        restIsDoneInAcceptAlone();
        restChangesNothing();
        restHasTheNumberOfRules();
        runHasJustSoManyChoices();
        firstAndLastVariables();
        clauseOfEachPair();
        clauseWithoutACellToTheLeft();
        clauseWithoutACellToTheRight();
        clausesAtTheEndOfAStep();
        threesOfEachLength();
        verticesAndEdges();
        coverHasAnEndOfEachEdge();
        citiesOfTheLastEdgeAndSelectors();
        roadsOfASide();
        roadsToTheOtherSide();
        roadsFromOneEdgeToTheNext();
        roadsOfSelectors();
        newVariablesByWhichLiteralIsTrue();
        newVariablesOfALaterStep();
        firstTrueLiteralIsNotCovered();
        tripGoesRoundAnEndOutsideTheCover();
        check.end();
    }

    private static TourChain machine(int q, int g, int t, int[]... rules) {
        TourChain x = new TourChain();
        x.machine(q, g, t);
        for (int[] r : rules) {
            x.rule(r[0], r[1], r[2], r[3], r[4]);
        }
        return x;
    }

    private static boolean accepts(TourChain x) {
        x.build();
        return x.solve();
    }

    private static void acceptIsTheLastState() {
        check.sentence("Terms", "ACCEPT is q - 1");
        check.due("two states, to 1", true, accepts(machine(2, 2, 1, new int[] {0, 0, 1, 0, 1})));
        check.due("two states, to 0", false, accepts(machine(2, 2, 1, new int[] {0, 0, 0, 0, 1})));
        check.due("three states, to 2", true, accepts(machine(3, 2, 1, new int[] {0, 0, 2, 0, 1})));
        check.due("three states, to 1", false, accepts(machine(3, 2, 1, new int[] {0, 0, 1, 0, 1})));
        // The clause Q(t, ACCEPT) stands behind those of the cells, the head and the first state.
        TourChain x = machine(3, 2, 1);
        x.build();
        dueClause(x, 8 + 4 + 8 + 4, 2 * (8 + 4 + 5));
    }

    private static void dueClause(TourChain x, int clause, int... want) {
        for (int i = 0; i < want.length; i++) {
            check.due("literal(" + clause + ", " + i + ")", want[i], x.literal(clause, i));
        }
        check.due("literal(" + clause + ", " + want.length + ")", NONE, x.literal(clause, want.length));
    }

    private static void runBeginsOnCell0InState0() {
        check.sentence("Terms", "its head on cell 0, state 0");
        TourChain x = machine(3, 2, 1, new int[] {0, 1, 2, 0, 1});
        x.input(1, 1);
        check.due("1 on cell 1", false, accepts(x));
        x.input(0, 1);
        check.due("1 on cell 0", true, accepts(x));
        check.due("a rule in state 1", false, accepts(machine(3, 2, 1, new int[] {1, 0, 2, 0, 1})));
        check.due("H(0, 0)", 1, x.truth(8));
        check.due("H(0, 1)", 0, x.truth(9));
        check.due("Q(0, 0)", 1, x.truth(12));
    }

    private static void headStaysRightOfCell0() {
        check.sentence("Terms, left of cell 0", "and the head stays within the cells");
        check.due("from cell 0", false, accepts(machine(2, 2, 1, new int[] {0, 0, 1, 0, 0})));
        TourChain x = machine(3, 2, 2, new int[] {0, 0, 1, 0, 2}, new int[] {1, 0, 2, 0, 0});
        check.due("from cell 1", true, accepts(x));
        // C 18, H 18 .. 26.
        check.due("H(1, 1)", 1, x.truth(22));
        check.due("H(2, 0)", 1, x.truth(24));
    }

    private static void headStaysLeftOfTheLastCell() {
        check.sentence("Terms, right of the last cell", "and the head stays within the cells");
        for (int t = 1; t <= 3; t++) {
            // The head needs all t choices to come to the last cell, so no run can be refused for leaving it there.
            TourChain x = machine(2, 2, t, new int[] {0, 0, 0, 0, 2}, new int[] {0, 1, 1, 0, 2});
            x.input(t - 1, 1);
            check.due("bound " + t + ", to the last cell", true, accepts(x));
            int cells = t + 1;
            check.due("bound " + t + ", H(t, t)", 1, x.truth(cells * cells * 2 + cells * cells - 1));
        }
    }

    private static void restIsDoneInAcceptAlone() {
        check.sentence("Terms", "In ACCEPT one step alone can be done, REST");
        check.due("no rule: REST in state 0", false, accepts(machine(2, 2, 3)));
        TourChain x = machine(3, 2, 2, new int[] {0, 0, 1, 0, 1});
        check.due("REST in state 1", false, accepts(x));
        x = machine(2, 2, 3, new int[] {0, 0, 1, 0, 1});
        check.due("REST in ACCEPT", true, accepts(x));
        check.due("choice(0)", 0, x.choice(0));
        check.due("choice(1)", 1, x.choice(1));
        check.due("choice(2)", 1, x.choice(2));
    }

    private static void restChangesNothing() {
        check.sentence("Terms", "REST, which changes nothing");
        TourChain x = machine(2, 3, 2, new int[] {0, 0, 1, 2, 2});
        x.input(2, 1);
        check.due("solve()", true, accepts(x));
        // Rows of C have 9 variables each, of H 3 (from 27), of Q 2 (from 36).
        int[] cells = {0, 0, 1, 1, 0, 0, 0, 1, 0};
        for (int n = 0; n < 9; n++) {
            check.due("C " + n + " of row 1", cells[n], x.truth(9 + n));
            check.due("C " + n + " of row 2", cells[n], x.truth(18 + n));
        }
        for (int p = 0; p < 3; p++) {
            check.due("H(1, " + p + ")", p == 1 ? 1 : 0, x.truth(30 + p));
            check.due("H(2, " + p + ")", p == 1 ? 1 : 0, x.truth(33 + p));
        }
        for (int s = 0; s < 2; s++) {
            check.due("Q(1, " + s + ")", s, x.truth(38 + s));
            check.due("Q(2, " + s + ")", s, x.truth(40 + s));
        }
    }

    private static void restHasTheNumberOfRules() {
        check.sentence("Terms", "its number is r, how many rules there are");
        TourChain x = new TourChain();
        x.machine(2, 2, 2);
        for (int r = 1; r <= 8; r++) {
            x.rule(0, 0, 1, 0, 1);
            check.due("solve()", true, accepts(x));
            check.due("choice(0) of " + r + " rules", 0, x.choice(0));
            check.due("choice(1) of " + r + " rules", r, x.choice(1));
        }
    }

    private static void runHasJustSoManyChoices() {
        check.sentence("Terms", "A RUN is t CHOICES, each a rule or REST that can be used then;"
            + " it ACCEPTS if it ends in ACCEPT");
        // ACCEPT is reached with the choice whose cell has the 1.
        for (int t = 1; t <= 3; t++) {
            for (int cell = 0; cell <= t; cell++) {
                TourChain x = machine(2, 2, t, new int[] {0, 0, 0, 0, 2}, new int[] {0, 1, 1, 1, 1});
                x.input(cell, 1);
                check.due("bound " + t + ", 1 on cell " + cell, cell < t, accepts(x));
                for (int i = 0; i <= t; i++) {
                    int want = cell == t || i == t ? NONE : i < cell ? 0 : i == cell ? 1 : 2;
                    check.due("bound " + t + ", 1 on cell " + cell + ", choice(" + i + ")", want, x.choice(i));
                }
            }
        }
    }

    private static void firstAndLastVariables() {
        check.sentence("Terms", "numbered by i, then p, then a; rows are 0 .. t");
        int[] right = {0, 0, 0, 0, 2};
        TourChain x = machine(3, 3, 3, right, new int[] {0, 1, 2, 2, 2});
        x.input(2, 1);
        x.input(3, 2);
        check.due("solve()", true, accepts(x));
        // C 0 .. 47, H 48 .. 63, Q 64 .. 75, K 76 .. 84.
        check.due("count(0)", 85, x.count(0));
        int[] held = {0, 47, 44, 48, 63, 53, 64, 75, 67, 76, 79, 83};
        int[] others = {1, 46, 45, 43, 49, 62, 60, 52, 65, 74, 73, 66, 77, 78, 82, 84};
        for (int variable : held) {
            check.due("truth(" + variable + ")", 1, x.truth(variable));
        }
        for (int variable : others) {
            check.due("truth(" + variable + ")", 0, x.truth(variable));
        }
    }

    private static void clauseOfEachPair() {
        check.sentence("Terms", "a clause of all C(i, p, a), then for each a < b: not a, not b");
        TourChain x = machine(3, 3, 3);
        x.build();
        // Four clauses a cell, 16 cells; seven a row of H; four a row of Q.
        dueClause(x, 0, 0, 2, 4);
        dueClause(x, 1, 1, 3);
        dueClause(x, 2, 1, 5);
        dueClause(x, 3, 3, 5);
        dueClause(x, 4, 6, 8, 10);
        dueClause(x, 60, 90, 92, 94);
        dueClause(x, 63, 93, 95);
        dueClause(x, 64, 96, 98, 100, 102);
        int[][] pairs = {{97, 99}, {97, 101}, {97, 103}, {99, 101}, {99, 103}, {101, 103}};
        for (int n = 0; n < pairs.length; n++) {
            dueClause(x, 65 + n, pairs[n]);
        }
        dueClause(x, 71, 104, 106, 108, 110);
        dueClause(x, 91, 125, 127);
        dueClause(x, 92, 128, 130, 132);
        dueClause(x, 93, 129, 131);
        dueClause(x, 107, 149, 151);
        // The input, H(0, 0), Q(0, 0), Q(3, 2), and K(0, 0), which is REST.
        dueClause(x, 108, 0);
        dueClause(x, 111, 18);
        dueClause(x, 112, 96);
        dueClause(x, 113, 128);
        dueClause(x, 114, 150);
        dueClause(x, 115, 152);
    }

    /** The head's clauses of the first step's only rule, of a machine of two states and two symbols. */
    private static void dueMoves(int t, int d) {
        TourChain x = machine(2, 2, t, new int[] {0, 0, 1, 1, d});
        x.build();
        int cells = t + 1;
        int heads = cells * cells * 2;
        int choices = heads + cells * cells + cells * 2;
        int before = cells * cells * 2 + cells * (1 + cells * (cells - 1) / 2) + cells * 2 + cells + 3;
        int n = 2 * choices + 1;
        for (int p = 0; p < cells; p++) {
            int clause = before + 1 + 2 + 3 * p + 2;
            int notHere = 2 * (heads + p) + 1;
            int to = p + d - 1;
            if (to < 0 || to > t) {
                dueClause(x, clause, n, notHere);
            } else {
                dueClause(x, clause, n, notHere, 2 * (heads + cells + to));
            }
        }
    }

    private static void clauseWithoutACellToTheLeft() {
        check.sentence("Terms, d 0", "without the last one if there is no such cell");
        for (int t = 1; t <= 3; t++) {
            dueMoves(t, 0);
        }
    }

    private static void clauseWithoutACellToTheRight() {
        check.sentence("Terms, d 1 and 2", "without the last one if there is no such cell");
        for (int t = 1; t <= 3; t++) {
            dueMoves(t, 1);
            dueMoves(t, 2);
        }
    }

    private static void clausesAtTheEndOfAStep() {
        check.sentence("Terms", "At last for each p and a: H(i, p), not C(i, p, a), C(i + 1, p, a).");
        TourChain x = machine(2, 2, 2);
        x.build();
        // C 0 .. 17, H 18 .. 26, Q 27 .. 32, K 33 and 34: 18 + 12 + 6 + 6 clauses, then 1 + 11 + 6 for each step.
        check.due("count(1)", 42 + 2 * 18, x.count(1));
        dueClause(x, 42, 66);
        dueClause(x, 43, 67, 56);
        dueClause(x, 44, 67, 60);
        dueClause(x, 45, 67, 37, 42);
        dueClause(x, 46, 67, 37, 1, 12);
        dueClause(x, 53, 67, 41, 11, 22);
        dueClause(x, 54, 36, 1, 12);
        dueClause(x, 59, 40, 11, 22);
        dueClause(x, 60, 68);
        dueClause(x, 72, 42, 13, 24);
        dueClause(x, 77, 46, 23, 34);
    }

    private static void threesOfEachLength() {
        check.sentence("Terms",
            "of one literal: it three times; of two: the second one twice; of three: itself; of n more");
        // The clause of K, of r + 1 literals, is 21; K is 16 and more, so the new variables begin with 17 + r.
        dueThreesOfChoices(0, new int[][] {{32, 32, 32}, {33, 26, 26}});
        dueThreesOfChoices(1, new int[][] {{32, 34, 34}, {33, 24, 24}});
        dueThreesOfChoices(2, new int[][] {{32, 34, 36}, {33, 24, 24}});
        dueThreesOfChoices(3, new int[][] {{32, 34, 40}, {41, 36, 38}, {33, 24, 24}});
        dueThreesOfChoices(4, new int[][] {{32, 34, 42}, {43, 36, 44}, {45, 38, 40}, {33, 24, 24}});
        dueThreesOfChoices(5, new int[][] {{32, 34, 44}, {45, 36, 46}, {47, 38, 48}, {49, 40, 42}, {33, 24, 24}});
        dueThreesOfChoices(8, new int[][] {{32, 34, 50}, {51, 36, 52}, {53, 38, 54}, {55, 40, 56}, {57, 42, 58},
            {59, 44, 60}, {61, 46, 48}, {33, 24, 24}});
    }

    private static void dueThreesOfChoices(int r, int[][] want) {
        TourChain x = new TourChain();
        for (int k = 0; k < r; k++) {
            x.rule(0, 0, 1, 1, 1);
        }
        x.build();
        for (int j = 0; j < want.length; j++) {
            for (int i = 0; i < 3; i++) {
                check.due(r + " rules, three(" + (21 + j) + ", " + i + ")", want[j][i], x.three(21 + j, i));
            }
        }
        // REST's four clauses of four literals have a new variable each.
        check.due(r + " rules, count(2)", 17 + r + Math.max(0, r - 2) + 4, x.count(2));
    }

    private static void verticesAndEdges() {
        check.sentence("Terms", "vertices are literals, 0 .. 2 v - 1, and 2 v + 3 j + i for literal i of three j");
        TourChain x = SmallChain.unbuilt();
        x.build();
        int[][] edges = {{0, 0, 1}, {21, 42, 43}, {22, 44, 45}, {23, 45, 46}, {24, 44, 46}, {25, 44, 0}, {26, 45, 2},
            {27, 46, 2}, {28, 47, 48}, {292, 179, 180}, {293, 180, 181}, {294, 179, 181}, {295, 179, 18}, {296, 180, 7},
            {297, 181, 14}};
        for (int[] e : edges) {
            check.due("end(" + e[0] + ", 0)", e[1], x.end(e[0], 0));
            check.due("end(" + e[0] + ", 1)", e[2], x.end(e[0], 1));
        }
    }

    private static void coverHasAnEndOfEachEdge() {
        check.sentence("Terms", "A COVER are v + 2 c vertices that have an end of each edge.");
        TourChain x = SmallChain.solved();
        boolean[] covered = new boolean[SmallChain.VERTICES];
        int n = 0;
        for (int vertex = 0; vertex < SmallChain.VERTICES; vertex++) {
            covered[vertex] = x.covers(vertex) == 1;
            n += covered[vertex] ? 1 : 0;
        }
        check.due("covered vertices", x.count(6), n);
        // Asked of two objects, since there are more ends than calls.
        for (int half = 0; half < 2; half++) {
            TourChain y = SmallChain.solved();
            for (int edge = half * 149; edge < half * 149 + 149; edge++) {
                check.due("edge " + edge, true, covered[y.end(edge, 0)] || covered[y.end(edge, 1)]);
            }
        }
    }

    private static void citiesOfTheLastEdgeAndSelectors() {
        check.sentence("Terms", "and v + 2 c SELECTORS behind them");
        TourChain x = SmallChain.unbuilt();
        x.build();
        // 3564 is 0 of the last edge, 3575 the last of its cities; 3576 is the first selector.
        dueApart(x, 3574, 3575, 1);
        dueApart(x, 3573, 3575, 2);
        dueApart(x, 3575, 3567, 1);
        dueApart(x, 3575, 3576, 1);
        dueApart(x, 3574, 3576, 2);
        dueApart(x, 3576, 3577, 2);
        dueApart(x, 3576, 0, 1);
        dueApart(x, 3689, 0, 1);
    }

    private static void dueApart(TourChain x, int a, int b, int want) {
        check.due("apart(" + a + ", " + b + ")", want, x.apart(a, b));
        check.due("apart(" + b + ", " + a + ")", want, x.apart(b, a));
    }

    private static void roadsOfASide() {
        check.sentence("Terms", "i and i + 1 of a side");
        TourChain x = SmallChain.unbuilt();
        x.build();
        for (int side : new int[] {0, 6, 12, 3564, 3570}) {
            for (int i = 0; i < 5; i++) {
                dueApart(x, side + i, side + i + 1, 1);
                dueApart(x, side + i, side + i, 0);
            }
            dueApart(x, side, side + 2, 2);
            dueApart(x, side, side + 5, 2);
            dueApart(x, side + 3, side + 5, 2);
        }
        // 5 of a side and 0 of the next one are numbers side by side, and no more.
        dueApart(x, 5, 6, 2);
        dueApart(x, 11, 12, 2);
        dueApart(x, 3569, 3570, 2);
    }

    private static void roadsToTheOtherSide() {
        check.sentence("Terms", "2 of a side and 0 of the other; 5 and 3 likewise");
        for (int edge : new int[] {0, 21, 22, 297}) {
            TourChain x = SmallChain.unbuilt();
            x.build();
            for (int i = 0; i < 6; i++) {
                for (int k = 0; k < 6; k++) {
                    boolean road = i == 2 && k == 0 || i == 0 && k == 2 || i == 5 && k == 3 || i == 3 && k == 5;
                    dueApart(x, 12 * edge + i, 12 * edge + 6 + k, road ? 1 : 2);
                }
            }
            // So it is with the edge's own sides alone.
            dueApart(x, 12 * edge + 2, 12 * ((edge + 1) % 298) + 6, 2);
        }
    }

    private static void roadsFromOneEdgeToTheNext() {
        check.sentence("Terms", "with its edges as its END is there, in rising order: 5 of one and 0 of the next one");
        TourChain x = SmallChain.unbuilt();
        x.build();
        // Vertex 0 is end 0 of edge 0, and end 1 of edges 25, 121, 122, 123 and 171.
        int[] sides = {0, 306, 1458, 1470, 1482, 2058};
        for (int a = 0; a < sides.length; a++) {
            for (int b = 0; b < sides.length; b++) {
                if (a != b) {
                    dueApart(x, sides[a] + 5, sides[b], b == a + 1 ? 1 : 2);
                    dueApart(x, sides[a], sides[b], 2);
                    dueApart(x, sides[a] + 5, sides[b] + 5, 2);
                    dueApart(x, sides[a] + 4, sides[b], 2);
                }
            }
        }
        // Edge 25 has vertex 44 at its other end: the next edge of vertex 0 is none of that one's.
        dueApart(x, 305, 1458, 2);
    }

    private static void roadsOfSelectors() {
        check.sentence("Terms", "each selector and 0 of the first, 5 of the last one");
        TourChain x = SmallChain.unbuilt();
        x.build();
        for (int selector : new int[] {3576, 3577, 3688, 3689}) {
            // Vertex 0, of six edges; literal 36, of two, which are 18 and 225; vertex 181, of three: 293, 294 and 297.
            int[] near = {0, 2063, 216, 2711, 3522, 3569};
            int[] far = {5, 2058, 1, 306, 311, 2062, 221, 2706, 3527, 3534, 3539, 3564, 3565, 3568};
            for (int city : near) {
                dueApart(x, selector, city, 1);
            }
            for (int city : far) {
                dueApart(x, selector, city, 2);
            }
        }
        dueApart(x, 3576, 3689, 2);
        dueApart(x, 3688, 3689, 2);
        dueApart(x, 3689, 3689, 0);
    }

    private static void newVariablesByWhichLiteralIsTrue() {
        check.sentence("Terms", "y(j) of a three is true if none of l1 .. l(j + 1) is");
        for (int used = 0; used < 8; used++) {
            TourChain x = new TourChain();
            for (int k = 0; k < 8; k++) {
                x.rule(0, k == used ? 0 : 1, 1, 1, 1);
            }
            x.build();
            check.due("solve()", true, x.solve());
            check.due("choice(0)", used, x.choice(0));
            // K is 16 .. 24, and literal used + 1 of the nine is true; y(1) .. y(6) are 25 .. 30.
            for (int j = 1; j <= 6; j++) {
                check.due("rule " + used + ", y(" + j + ")", used + 1 > j + 1 ? 1 : 0, x.truth(24 + j));
            }
        }
    }

    private static void newVariablesOfALaterStep() {
        check.sentence("Terms, the last of all literals", "y(j) of a three is true if none of l1 .. l(j + 1) is");
        TourChain x = new TourChain();
        x.machine(2, 2, 2);
        for (int k = 0; k < 8; k++) {
            x.rule(0, 0, 1, 1, 1);
        }
        x.build();
        check.due("solve()", true, x.solve());
        // K is 33 .. 50. Step 0 is rule 0: its y, 51 .. 56, are false; REST's six clauses have 57 .. 62, true by not K.
        // Step 1 is REST, the last literal of nine: its y, 63 .. 68, are true; its own clauses' (n, not H(1, p), y)
        // are true where the head is, on cell 0.
        int[] want = {0, 0, 0, 0, 0, 0, 0, 0, 0, 0, 0, 0, 1, 1, 1, 1, 1, 1, 1, 1, 0, 0, 0, 0};
        for (int n = 0; n < want.length; n++) {
            check.due("truth(" + (51 + n) + ")", want[n], x.truth(51 + n));
        }
        check.due("truth(75)", NONE, x.truth(75));
    }

    private static void firstTrueLiteralIsNotCovered() {
        check.sentence("Terms", "of each three all but the first literal that is true");
        TourChain x = SmallChain.solved();
        // Of literals true, false, false; false, true, true (the same one); true three times; both first ones true;
        // the last one true alone.
        dueOut(x, 0, 0);
        dueOut(x, 1, 1);
        dueOut(x, 16, 0);
        dueOut(x, 33, 0);
        dueOut(x, 24, 2);
        dueOut(x, 45, 1);
    }

    private static void dueOut(TourChain x, int j, int out) {
        for (int i = 0; i < 3; i++) {
            check.due("literal " + i + " of three " + j, i == out ? 0 : 1, x.covers(44 + 3 * j + i));
        }
    }

    private static void tripGoesRoundAnEndOutsideTheCover() {
        check.sentence("Terms", "but if the other end is not in the cover: 0, 1, 2, all of the other side, 3, 4, 5");
        TourChain x = SmallChain.solved();
        // Edges 0, 25 and 121 have another end that is not covered; 122 and 123 have one that is.
        int[] begin = {3576, 0, 1, 2, 6, 7, 8, 9, 10, 11, 3, 4, 5,
            306, 307, 308, 300, 301, 302, 303, 304, 305, 309, 310, 311,
            1458, 1459, 1460, 1452, 1453, 1454, 1455, 1456, 1457, 1461, 1462, 1463,
            1470, 1471, 1472, 1473, 1474, 1475, 1482, 1483, 1484, 1485, 1486, 1487};
        for (int i = 0; i < begin.length; i++) {
            check.due("city(" + i + ")", begin[i], x.city(i));
        }
    }
}
