import java.util.Random;

/** Long random runs of calls, right and wrong ones, on an object and on the Model side by side. */
public final class RandomRunTest {
    private static final int RUNS = 80;
    private static final int CALLS = 512;

    private static final Check check = new Check();

    private final Random random;
    private final TourChain chain = new TourChain();
    private final Model model = new Model();

    private RandomRunTest(long seed) {
        random = new Random(seed);
    }

    public static void main(String[] args) {
        for (int run = 0; run < RUNS; run++) {
            new RandomRunTest(run).go(run);
        }
        check.end();
    }

    private void go(int run) {
        long first = check.asked();
        // A step makes two calls at the most.
        while (check.asked() - first < CALLS - 1) {
            step("run " + run + ", call " + (check.asked() - first) + ": ");
        }
    }

    /** Mostly a number from 0 to n - 1, now and then one that is none of these. */
    private int about(int n) {
        int[] odd = {-1, n, n + 1, Integer.MIN_VALUE, Integer.MAX_VALUE};
        return n <= 0 || random.nextInt(12) == 0 ? odd[random.nextInt(odd.length)] : random.nextInt(n);
    }

    private void step(String where) {
        int kind = random.nextInt(100);
        if (kind < 1) {
            int q = 1 + random.nextInt(4);
            int g = 1 + random.nextInt(4);
            int t = random.nextInt(5);
            check.due(where + "machine", model.machine(q, g, t), chain.machine(q, g, t));
        } else if (kind < 4) {
            addRule(where);
        } else if (kind < 5) {
            int cell = about(model.bound + 1);
            int symbol = about(model.symbols);
            check.due(where + "input", model.input(cell, symbol), chain.input(cell, symbol));
        } else if (kind < 9) {
            buildAndSolve(where);
        } else if (kind < 14) {
            check.due(where + "solve", Check.answerOf(() -> model.solve() ? 1 : 0), () -> chain.solve() ? 1 : 0);
        } else if (kind < 60) {
            ask(where, random.nextInt(9));
        } else {
            travel(where, random.nextInt(20));
        }
    }

    private void addRule(String where) {
        int s = about(model.states - 1);
        int a = about(model.symbols);
        int s2 = about(model.states);
        int b = about(model.symbols);
        int d = about(3);
        check.due(where + "rule", model.rule(s, a, s2, b, d), chain.rule(s, a, s2, b, d));
    }

    private void buildAndSolve(String where) {
        check.due(where + "build", model.build(), chain.build());
        if (random.nextInt(4) != 0) {
            check.due(where + "solve", model.solve(), chain.solve());
        }
    }

    private void ask(String where, int kind) {
        int a = about(model.cities);
        int b = random.nextBoolean() ? a + random.nextInt(13) - 6 : about(model.cities);
        int i = about(3);
        switch (kind) {
            case 0: check.due(where + "count", model.count(i + 3), chain.count(i + 3)); break;
            case 1: a = about(model.clauses.size()); check.due(where + "literal", model.literal(a, i), chain.literal(a, i)); break;
            case 2: a = about(model.threes.size()); check.due(where + "three", model.three(a, i), chain.three(a, i)); break;
            case 3: a = about(model.edges.size()); check.due(where + "end", model.end(a, i), chain.end(a, i)); break;
            case 4: check.due(where + "apart", model.apart(a, b), chain.apart(a, b)); break;
            case 5: check.due(where + "choice", model.choice(i), chain.choice(i)); break;
            case 6: a = about(model.variables.size()); check.due(where + "truth", model.truth(a), chain.truth(a)); break;
            case 7: a = about(model.vertices()); check.due(where + "covers", model.covers(a), chain.covers(a)); break;
            default: check.due(where + "city", model.city(a), chain.city(a)); break;
        }
    }

    private void travel(String where, int kind) {
        if (kind < 3) {
            int i = about(model.cities);
            int city = about(model.cities);
            comparePut(where, i, city);
        } else if (kind < 9) {
            swap(where, random.nextInt(Math.max(1, model.cities)), random.nextInt(Math.max(1, model.cities)));
        } else if (kind < 12) {
            compareTurn(where, about(model.cities), random.nextBoolean());
        } else if (kind < 16) {
            check.due(where + "cost", Check.answerOf(() -> model.cost()), () -> chain.cost());
        } else if (kind < 19) {
            check.due(where + "pull", Check.answerOf(() -> model.pull() ? 1 : 0), () -> chain.pull() ? 1 : 0);
        } else {
            check.due(where + "replay", Check.answerOf(() -> model.replay() ? 1 : 0), () -> chain.replay() ? 1 : 0);
        }
    }

    private void comparePut(String where, int i, int city) {
        check.due(where + "put", Check.answerOf(() -> model.put(i, city)), () -> chain.put(i, city));
    }

    private void compareTurn(String where, int n, boolean round) {
        check.due(where + "turn", Check.answerOf(() -> { model.turn(n, round); return 0; }),
            () -> { chain.turn(n, round); return 0; });
    }

    /** Two cities change places, so that the trip has each city once still. */
    private void swap(String where, int a, int b) {
        int cityOfA = model.city(a);
        int cityOfB = model.city(b);
        comparePut(where, a, cityOfB);
        comparePut(where, b, cityOfA);
    }
}
