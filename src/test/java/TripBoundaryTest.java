/** Promises 11 and 16 to 20: each sentence that names a boundary case has a test of its own here. */
public final class TripBoundaryTest {
    private static final int NONE = TourChain.NONE;
    private static final int LOW = Integer.MIN_VALUE;
    private static final int HIGH = Integer.MAX_VALUE;

    // Of the small machine's trip: how many cities it has, its last place, where the selector before literal 32 (that
    // the rule is the choice), the next one and the last one stand.
    private static final int N = SmallChain.CITIES;
    private static final int LAST = N - 1;
    private static final int CHOICE_PLACE = 802;
    private static final int NEXT_PLACE = 827;
    private static final int LAST_SELECTOR_PLACE = 3659;

    private static final Check check = new Check();
    private static final SmallChain small = new SmallChain(check);

    public static void main(String[] args) {
        solveTakesTheLowest();
        solveComparesFromTheFirstOne();
        solveGoesBackFromADeadEnd();
        solveWithoutARun();
        solveWhenNotBuilt();
        solveOnceMore();
        putAtFirstAndLast();
        putWithoutATrip();
        putAtNoPlace();
        putOfNoCity();
        putRefusedChangesNothing();
        turnByNothing();
        turnToTheNextAndTheLast();
        turnRoundOnceAndAgain();
        turnThenRound();
        turnWithoutATrip();
        turnToNoPlace();
        costOfATurnedTrip();
        costOfTheWayBack();
        costOfACityTwice();
        costOfACityTwiceOnTheShortWay();
        costOfACityOften();
        costPutRight();
        costWithoutATrip();
        pullOfAGoodTrip();
        pullByTheFirstAndTheLastSelector();
        pullOverTheEnd();
        pullChangesTheRunAlone();
        pullOfATripOneTooLong();
        pullOfATripOneTooLongOverTheEnd();
        pullOfATripWithACityTwice();
        pullRefusedChangesNothing();
        pullWithoutATrip();
        replayOfARun();
        replayLeavesTheTripAlone();
        replayWithoutARun();
        all512Calls();
        check.end();
    }

    private static void dueChoices(TourChain x, int... want) {
        for (int i = 0; i < want.length; i++) {
            check.due("choice(" + i + ")", want[i], x.choice(i));
        }
    }

    private static void dueSolve(TourChain x, int... want) {
        x.build();
        check.due("solve()", want.length > 0, x.solve());
        dueChoices(x, want);
    }

    private static void solveTakesTheLowest() {
        check.sentence("Promise 11", "of several that whose choices, compared from the first one, are lowest");
        TourChain x = new TourChain();
        x.rule(0, 0, 1, 0, 1);
        x.rule(0, 0, 1, 0, 1);
        dueSolve(x, 0);
        // The eighth rule alone.
        x.machine(2, 2, 1);
        for (int k = 0; k < 7; k++) {
            x.rule(0, 1, 1, 0, 1);
        }
        x.rule(0, 0, 1, 0, 1);
        dueSolve(x, 7);
        x.input(0, 1);
        dueSolve(x, 0);
    }

    private static void solveComparesFromTheFirstOne() {
        check.sentence("Promise 11", "compared from the first one");
        TourChain x = new TourChain();
        x.machine(3, 2, 3);
        x.rule(1, 0, 2, 0, 1);
        x.rule(0, 0, 0, 0, 1);
        x.rule(0, 0, 1, 0, 1);
        x.rule(0, 0, 2, 0, 1);
        // 1 1 3, 1 2 0, 1 3 REST, 2 0 REST, 3 REST REST: the lowest last choice, and the most rest, come later.
        dueSolve(x, 1, 1, 3);
        // All but the last choice are one: 0 1, 0 2.
        x.machine(3, 2, 2);
        x.rule(0, 0, 1, 0, 1);
        x.rule(1, 0, 2, 0, 1);
        x.rule(1, 0, 2, 1, 1);
        dueSolve(x, 0, 1);
    }

    private static void solveGoesBackFromADeadEnd() {
        check.sentence("Promise 11", "Looks for an accepting run");
        TourChain x = new TourChain();
        x.machine(3, 3, 3);
        // Behind rules 0 and 1 nothing can be done; of those that are left, 2 2 3 comes before 2 3 REST.
        x.rule(0, 0, 0, 1, 1);
        x.rule(0, 0, 1, 2, 2);
        x.rule(0, 0, 0, 0, 2);
        x.rule(0, 0, 2, 1, 0);
        x.build();
        check.due("solve()", true, x.solve());
        dueChoices(x, 2, 2, 3);
        check.due("replay()", true, x.replay());
        // Rule 0 has written 1 in cell 0 when it was tried: the run's rows must not have it.
        check.due("C(1, 0, 0)", 1, x.truth(12));
        check.due("C(1, 0, 1)", 0, x.truth(13));
    }

    private static void solveWithoutARun() {
        check.sentence("Promise 11", "false, when there is none (nor a trip then)");
        TourChain x = SmallChain.solved();
        x.input(0, 1);
        x.build();
        check.due("solve()", false, x.solve());
        small.dueNoRun("solve() without a run", x);
        check.due("solve() without a run, count(7)", N, x.count(7));
        check.due("solve() again", false, x.solve());
        x.input(0, 0);
        x.build();
        check.due("solve(), the input is as it was", true, x.solve());
        small.dueSolved("solve(), the input is as it was", x);
        TourChain bare = new TourChain();
        bare.build();
        check.due("solve() without a rule", false, bare.solve());
        small.dueNoRun("solve() without a rule", bare);
    }

    private static void solveWhenNotBuilt() {
        check.sentence("Promise 11", "IllegalStateException, when it is not built.");
        for (SmallChain.State state : SmallChain.State.values()) {
            TourChain x = state.make();
            boolean hasRun = state != SmallChain.State.SOLVED_WITHOUT_RUN;
            check.due(state + ", solve()", state.isBuilt() ? hasRun ? 1 : 0 : Check.STATE, () -> x.solve() ? 1 : 0);
        }
    }

    private static void solveOnceMore() {
        check.sentence("Promise 11", "true, and it and its trip are there");
        TourChain x = SmallChain.solved();
        long[] before = Answers.of(x);
        x.put(0, 1);
        x.put(LAST, 1);
        x.turn(7, true);
        check.due("solve()", true, x.solve());
        Answers.compare(check, "solve() once more", before, x);
    }

    private static void putAtFirstAndLast() {
        check.sentence("Promise 16", "Place i of the trip becomes another city: what it was.");
        TourChain x = SmallChain.solved();
        check.due("put(0, 0)", 3576, x.put(0, 0));
        check.due("put(0, 0), city(0)", 0, x.city(0));
        check.due("put(0, 0), city(1)", 0, x.city(1));
        check.due("put(0, 0), city(last)", 3569, x.city(LAST));
        check.due("put(0, last)", 0, x.put(0, LAST));
        check.due("put(0, last), city(0)", LAST, x.city(0));
        check.due("put(last, 0)", 3569, x.put(LAST, 0));
        check.due("put(last, last)", 0, x.put(LAST, LAST));
        check.due("put(last, last) again", LAST, x.put(LAST, LAST));
        check.due("put(last, last), city(last - 1)", 3568, x.city(LAST - 1));
        x.turn(1, true);
        check.due("put(0, 5), turned: it was the first", LAST, x.put(0, 5));
        check.due("put(last, 6), turned: it was the second", 0, x.put(LAST, 6));
        check.due("put(1, 7), turned: it was the last", LAST, x.put(1, 7));
        check.due("city(0)", 5, x.city(0));
        check.due("city(1)", 7, x.city(1));
        check.due("city(last)", 6, x.city(LAST));
    }

    private static void putWithoutATrip() {
        check.sentence("Promise 16", "IllegalStateException, when there is no trip");
        int[][] calls = {{0, 0}, {LAST, LAST}, {-1, 0}, {0, -1}, {N, 0}, {0, N}, {LOW, HIGH}};
        for (SmallChain.State state : SmallChain.State.values()) {
            TourChain x = state.make();
            for (int[] c : calls) {
                if (!state.hasTrip()) {
                    check.due(state + ", put(" + c[0] + ", " + c[1] + ")", Check.STATE, () -> x.put(c[0], c[1]));
                }
            }
        }
    }

    private static void putAtNoPlace() {
        check.sentence("Promise 16, no place", "when there is no such place or city");
        TourChain x = SmallChain.solved();
        for (int i : new int[] {-1, N, N + 1, LOW, HIGH}) {
            check.due("put(" + i + ", 0)", Check.ARGUMENT, () -> x.put(i, 0));
            check.due("put(" + i + ", last)", Check.ARGUMENT, () -> x.put(i, LAST));
        }
    }

    private static void putOfNoCity() {
        check.sentence("Promise 16, no city", "when there is no such place or city");
        TourChain x = SmallChain.solved();
        for (int city : new int[] {-1, N, N + 1, LOW, HIGH}) {
            check.due("put(0, " + city + ")", Check.ARGUMENT, () -> x.put(0, city));
            check.due("put(last, " + city + ")", Check.ARGUMENT, () -> x.put(LAST, city));
        }
    }

    private static void putRefusedChangesNothing() {
        check.sentence("Promise 16, nothing is changed", "when there is no such place or city");
        for (int[] c : new int[][] {{-1, 0}, {N, 0}, {0, -1}, {0, N}, {LAST, N}, {LAST, -1}}) {
            TourChain x = SmallChain.solved();
            long[] before = Answers.of(x);
            Check.answerOf(() -> x.put(c[0], c[1]));
            Answers.compare(check, "put(" + c[0] + ", " + c[1] + ")", before, x);
        }
    }

    private static long turn(TourChain x, int n, boolean round) {
        return Check.answerOf(() -> {
            x.turn(n, round);
            return 0;
        });
    }

    /** What the trip begins with, and what it ends with. */
    private static void dueEnds(String after, TourChain x, int first, int second, int lastButOne, int last) {
        check.due(after + ", city(0)", first, x.city(0));
        check.due(after + ", city(1)", second, x.city(1));
        check.due(after + ", city(last - 1)", lastButOne, x.city(LAST - 1));
        check.due(after + ", city(last)", last, x.city(LAST));
        check.due(after + ", city(-1)", NONE, x.city(-1));
        check.due(after + ", city(last + 1)", NONE, x.city(N));
    }

    private static void turnByNothing() {
        check.sentence("Promise 17, n 0", "The trip begins n places later");
        TourChain x = SmallChain.solved();
        check.due("turn(0, false)", 0, turn(x, 0, false));
        dueEnds("turn(0, false)", x, 3576, 0, 3568, 3569);
    }

    private static void turnToTheNextAndTheLast() {
        check.sentence("Promise 17", "The trip begins n places later (what was ahead goes to its end)");
        TourChain x = SmallChain.solved();
        x.turn(1, false);
        dueEnds("turn(1, false)", x, 0, 1, 3569, 3576);
        x.turn(LAST, false);
        dueEnds("turn(1, false), turn(last, false)", x, 3576, 0, 3568, 3569);
        x.turn(LAST, false);
        dueEnds("turn(last, false)", x, 3569, 3576, 3567, 3568);
        x.turn(2, false);
        dueEnds("turn(last, false), turn(2, false)", x, 0, 1, 3569, 3576);
        x.turn(LAST - 1, false);
        x.turn(LAST - 1, false);
        // 1 - 2 - 2: it begins three places before its first one.
        dueEnds("turn(last - 1, false) twice", x, 3567, 3568, 3574, 3575);
    }

    private static void turnRoundOnceAndAgain() {
        check.sentence("Promise 17", "and is turned round then, if asked");
        TourChain x = SmallChain.solved();
        x.turn(0, true);
        dueEnds("turn(0, true)", x, 3569, 3568, 0, 3576);
        x.turn(0, true);
        dueEnds("turn(0, true) again", x, 3576, 0, 3568, 3569);
        x.turn(0, true);
        x.turn(1, false);
        dueEnds("turn(0, true), turn(1, false)", x, 3568, 3567, 3576, 3569);
        x.turn(LAST, false);
        dueEnds("and turn(last, false)", x, 3569, 3568, 0, 3576);
        x.turn(LAST, true);
        // Begins with 3576, goes on with 3569, ends with 0; and round.
        dueEnds("and turn(last, true)", x, 0, 1, 3569, 3576);
    }

    private static void turnThenRound() {
        check.sentence("Promise 17, the order", "and is turned round then, if asked");
        TourChain x = SmallChain.solved();
        x.turn(1, true);
        dueEnds("turn(1, true)", x, 3576, 3569, 1, 0);
        x.turn(1, true);
        dueEnds("turn(1, true) again", x, 3576, 0, 3568, 3569);
        x.turn(LAST, true);
        dueEnds("turn(last, true)", x, 3568, 3567, 3576, 3569);
        x.turn(LAST, true);
        dueEnds("turn(last, true) again", x, 3576, 0, 3568, 3569);
        x.turn(2, true);
        dueEnds("turn(2, true)", x, 0, 3576, 2, 1);
    }

    private static void turnWithoutATrip() {
        check.sentence("Promise 17", "IllegalStateException, when there is no trip");
        for (SmallChain.State state : SmallChain.State.values()) {
            TourChain x = state.make();
            for (int n : new int[] {0, LAST, -1, N, LOW, HIGH}) {
                if (!state.hasTrip()) {
                    check.due(state + ", turn(" + n + ", false)", Check.STATE, turn(x, n, false));
                    check.due(state + ", turn(" + n + ", true)", Check.STATE, turn(x, n, true));
                }
            }
        }
    }

    private static void turnToNoPlace() {
        check.sentence("Promise 17", "IllegalArgumentException, when n is no place in it.");
        for (boolean round : new boolean[] {false, true}) {
            for (int n : new int[] {-1, N, N + 1, LOW, HIGH}) {
                TourChain x = SmallChain.solved();
                long[] before = Answers.of(x);
                check.due("turn(" + n + ", " + round + ")", Check.ARGUMENT, turn(x, n, round));
                Answers.compare(check, "turn(" + n + ", " + round + ")", before, x);
            }
        }
    }

    private static void costOfATurnedTrip() {
        check.sentence("Promise 18, turned", "The COST of the trip");
        TourChain x = SmallChain.solved();
        for (int n : new int[] {0, 1, LAST, 1845}) {
            x.turn(n, false);
            check.due("turn(" + n + ", false), cost()", N, x.cost());
            x.turn(n, true);
            check.due("turn(" + n + ", true), cost()", N, x.cost());
        }
        swap(x, 0, 100);
        int cost = x.cost();
        x.turn(50, true);
        check.due("of a worse trip, turned, cost()", cost, x.cost());
    }

    private static void swap(TourChain x, int a, int b) {
        x.put(b, x.put(a, x.city(b)));
    }

    private static void costOfTheWayBack() {
        check.sentence("Terms", "A TRIP is a row of all cities, each once, and back; its COST all these together");
        TourChain x = SmallChain.solved();
        // 3576 0 1 .. 3568 3569 and back becomes 0 3576 1 .. : 3569 and 0 have no road, nor have 3576 and 1.
        swap(x, 0, 1);
        check.due("the first two swapped", N + 2, x.cost());
        swap(x, 0, 1);
        // .. 3567 3569 3568 and back to 3576.
        swap(x, LAST - 1, LAST);
        check.due("the last two swapped", N + 2, x.cost());
        swap(x, LAST - 1, LAST);
        // .. 3568 3576, and back to 3569 0 ..
        swap(x, 0, LAST);
        check.due("the first and the last swapped", N + 2, x.cost());
    }

    private static void costOfACityTwice() {
        check.sentence("Promise 18", "NONE when a city is not in it just once");
        int[] places = {0, 1, LAST - 1, LAST, 1845};
        int[] cities = {0, 31, 32, 63, 64, 3575, 3576, 3577, LAST - 1, LAST};
        for (int place : places) {
            for (int city : cities) {
                TourChain x = SmallChain.solved();
                int was = x.put(place, city);
                String call = "put(" + place + ", " + city + ")";
                check.due(call + ", cost()", was == city ? N : NONE, x.cost());
                x.turn(1, true);
                check.due(call + ", turned, cost()", was == city ? N : NONE, x.cost());
            }
        }
    }

    private static void costOfACityTwiceOnTheShortWay() {
        check.sentence("Promise 18, though the ways are no more", "NONE when a city is not in it just once");
        TourChain x = SmallChain.solved();
        // 3576 3576 1: 0 and 2 instead of 1 and 1.
        x.put(1, 3576);
        check.due("cost()", NONE, x.cost());
        check.due("pull()", false, x.pull());
    }

    private static void costOfACityOften() {
        check.sentence("Promise 18, often", "NONE when a city is not in it just once");
        TourChain x = SmallChain.solved();
        x.put(5, 0);
        x.put(LAST, 0);
        check.due("a city three times", NONE, x.cost());
        TourChain twice = SmallChain.solved();
        for (int i = 0; i < 100; i++) {
            twice.put(i, twice.city(i + 100));
        }
        check.due("a hundred cities twice", NONE, twice.cost());
        check.due("a hundred cities twice, again", NONE, twice.cost());
    }

    private static void costPutRight() {
        check.sentence("Promise 18, and put right", "NONE when a city is not in it just once");
        TourChain x = SmallChain.solved();
        int was = x.put(17, 0);
        check.due("a city twice", NONE, x.cost());
        x.put(17, was);
        check.due("put right", N, x.cost());
        // Two of all selectors change places: which one stands where does not matter.
        swap(x, 0, 61);
        check.due("the first two selectors swapped", N, x.cost());
    }

    private static void costWithoutATrip() {
        check.sentence("Promise 18", "IllegalStateException likewise.");
        for (SmallChain.State state : SmallChain.State.values()) {
            TourChain x = state.make();
            check.due(state + ", cost()", state.hasTrip() ? N : Check.STATE, () -> x.cost());
        }
    }

    private static void pullOfAGoodTrip() {
        check.sentence("Promise 19", "BACK from the trip: true, and its choices are the run's");
        for (int n : new int[] {0, 1, LAST, CHOICE_PLACE, CHOICE_PLACE + 1, NEXT_PLACE, NEXT_PLACE + 1}) {
            for (boolean round : new boolean[] {false, true}) {
                TourChain x = SmallChain.solved();
                x.turn(n, round);
                check.due("turn(" + n + ", " + round + "), pull()", true, x.pull());
                dueChoices(x, 0);
                x.turn(0, true);
                check.due("turn(" + n + ", " + round + "), turn(0, true), pull()", true, x.pull());
                dueChoices(x, 0);
            }
        }
    }

    private static void pullByTheFirstAndTheLastSelector() {
        check.sentence("Terms", "the cover has the vertex whose side stands behind each selector in the trip");
        // Where the first, the second and the last selector stand.
        for (int place : new int[] {0, 61, LAST_SELECTOR_PLACE}) {
            for (boolean round : new boolean[] {false, true}) {
                TourChain x = SmallChain.solved();
                swap(x, place, round ? NEXT_PLACE : CHOICE_PLACE);
                x.turn(0, round);
                check.due("the selector of place " + place + " at literal 32, pull()", true, x.pull());
                dueChoices(x, 0);
            }
        }
        TourChain x = SmallChain.solved();
        check.due("the first selector", 3576, x.city(0));
        check.due("the last selector", 3689, x.city(LAST_SELECTOR_PLACE));
    }

    private static void pullOverTheEnd() {
        check.sentence("Terms", "the vertex whose side stands behind each selector in the trip"
            + " (its first edge's 0 or its last one's 5)");
        TourChain x = SmallChain.solved();
        check.due("the selector before literal 32", 3592, x.city(CHOICE_PLACE));
        check.due("literal 32, its first edge's 0", 192, x.city(CHOICE_PLACE + 1));
        check.due("the next selector", 3593, x.city(NEXT_PLACE));
        x.turn(CHOICE_PLACE + 1, false);
        check.due("the selector is the last city", 3592, x.city(LAST));
        check.due("pull()", true, x.pull());
        dueChoices(x, 0);
        TourChain round = SmallChain.solved();
        round.turn(NEXT_PLACE, true);
        check.due("turned, the next selector is the last city", 3593, round.city(LAST));
        check.due("turned, literal 32's last edge's 5 is the first", 12 * 151 + 11, round.city(0));
        check.due("turned, pull()", true, round.pull());
        dueChoices(round, 0);
    }

    private static void pullChangesTheRunAlone() {
        check.sentence("Promise 19, and the trip stays", "its choices are the run's");
        TourChain x = SmallChain.solved();
        x.turn(9, true);
        // The first two selectors, which stood at places 0 and 61.
        swap(x, 8, N - 1 - (61 - 9));
        check.due("cost()", N, x.cost());
        long[] before = Answers.of(x);
        check.due("pull()", true, x.pull());
        Answers.compare(check, "pull()", before, x);
    }

    /** The shortest trip that is not good: 3576 7 6 2 1 0 8 .. has no road from 3576 to 7, and all others. */
    private static void makeOneTooLong(TourChain x) {
        int[] cities = {7, 6, 2, 1, 0};
        for (int i = 0; i < cities.length; i++) {
            x.put(1 + i, cities[i]);
        }
    }

    private static void pullOfATripOneTooLong() {
        check.sentence("Terms", "it is GOOD if that is how many cities there are");
        TourChain x = SmallChain.solved();
        makeOneTooLong(x);
        check.due("cost()", N + 1, x.cost());
        check.due("pull()", false, x.pull());
        // And as it was.
        int[] cities = {0, 1, 2, 6, 7};
        for (int i = 0; i < cities.length; i++) {
            x.put(1 + i, cities[i]);
        }
        check.due("put right, cost()", N, x.cost());
        check.due("put right, pull()", true, x.pull());
    }

    private static void pullOfATripOneTooLongOverTheEnd() {
        check.sentence("Terms, the way back", "it is GOOD if that is how many cities there are");
        for (boolean round : new boolean[] {false, true}) {
            TourChain x = SmallChain.solved();
            makeOneTooLong(x);
            x.turn(1, round);
            check.due("cost()", N + 1, x.cost());
            check.due("pull()", false, x.pull());
        }
    }

    private static void pullOfATripWithACityTwice() {
        check.sentence("Promise 19, a city twice", "when the trip is not good");
        for (int place : new int[] {0, 1, LAST}) {
            TourChain x = SmallChain.solved();
            x.put(place, 100);
            check.due("put(" + place + ", 100), pull()", false, x.pull());
        }
    }

    private static void pullRefusedChangesNothing() {
        check.sentence("Promise 19", "false, and nothing is changed, when the trip is not good");
        for (int kind = 0; kind < 3; kind++) {
            TourChain x = SmallChain.solved();
            // Without a selector before literal 32, BACK would find another choice.
            if (kind == 0) {
                makeOneTooLong(x);
            } else if (kind == 1) {
                x.put(CHOICE_PLACE, 0);
            } else {
                swap(x, CHOICE_PLACE, 5);
            }
            long[] before = Answers.of(x);
            check.due("pull()", false, x.pull());
            Answers.compare(check, "pull() of a trip that is not good, kind " + kind, before, x);
        }
    }

    private static void pullWithoutATrip() {
        check.sentence("Promise 19", "IllegalStateException likewise.");
        for (SmallChain.State state : SmallChain.State.values()) {
            TourChain x = state.make();
            check.due(state + ", pull()", state.hasTrip() ? 1 : Check.STATE, () -> x.pull() ? 1 : 0);
        }
    }

    private static void replayOfARun() {
        check.sentence("Promise 20", "Whether the run's choices can be used one after the other, and end in ACCEPT.");
        // In bound 1 to 3: ACCEPT is reached with the last choice, and before it.
        for (int t = 1; t <= 3; t++) {
            TourChain x = new TourChain();
            x.machine(2, 2, t);
            x.rule(0, 0, 0, 0, 2);
            x.rule(0, 1, 1, 1, 1);
            for (int cell = t - 1; cell >= 0; cell--) {
                x.input(cell, 1);
                x.build();
                x.solve();
                check.due("bound " + t + ", replay()", true, x.replay());
                x.pull();
                check.due("bound " + t + ", pull(), replay()", true, x.replay());
            }
        }
    }

    private static void replayLeavesTheTripAlone() {
        check.sentence("Promise 20, whatever the trip is", "Whether the run's choices can be used");
        TourChain x = SmallChain.solved();
        x.put(0, 0);
        x.put(CHOICE_PLACE, 0);
        long[] before = Answers.of(x);
        check.due("replay() with a trip that is not good", true, x.replay());
        Answers.compare(check, "replay()", before, x);
    }

    private static void replayWithoutARun() {
        check.sentence("Promise 20", "IllegalStateException, when there is no run.");
        for (SmallChain.State state : SmallChain.State.values()) {
            TourChain x = state.make();
            check.due(state + ", replay()", state.hasTrip() ? 1 : Check.STATE, () -> x.replay() ? 1 : 0);
        }
    }

    private static void all512Calls() {
        check.sentence("What it is", "An object is used for at most 512 calls after it has been made");
        TourChain x = new TourChain();
        x.machine(3, 3, 3);
        for (int k = 0; k < 8; k++) {
            x.rule(0, 0, 2, 1, 1);
        }
        check.due("build()", 46641, x.build());
        check.due("solve()", true, x.solve());
        int calls = 11;
        while (calls < 509) {
            x.turn(46640, calls % 2 == 0);
            calls++;
        }
        check.due("call 510, cost()", 46641, x.cost());
        check.due("call 511, pull()", true, x.pull());
        check.due("call 512, replay()", true, x.replay());
        TourChain refused = new TourChain();
        for (int call = 1; call < 511; call++) {
            check.due("call " + call + ", machine(4, 2, 1)", false, refused.machine(4, 2, 1));
        }
        check.due("call 511, build()", 3085, refused.build());
        check.due("call 512, solve()", false, refused.solve());
    }
}
