import java.util.Arrays;
import java.util.List;

/**
 * BACK from good trips that no solve has laid. Such a trip needs more puts than the 512 calls that are promised, so
 * this holds the class to more than the document does; it is the one way to see which choice BACK takes of several.
 */
public final class BackTest {
    private static final Check check = new Check();

    private final int[][] rules;
    private final int bound;
    private final Model model = new Model();
    private final TourChain chain = new TourChain();

    private BackTest(int bound, int[]... rules) {
        this.bound = bound;
        this.rules = rules;
    }

    public static void main(String[] args) {
        check.sentence("Terms", "the choice of each step is the lowest k whose K is true");
        int[] rule = {0, 0, 1, 1, 1};
        int[] another = {0, 0, 1, 0, 2};
        int[] atOne = {0, 1, 1, 0, 2};
        for (boolean round : new boolean[] {false, true}) {
            new BackTest(1, rule, rule).pullFrom(round, 1);
            new BackTest(1, rule, rule).pullFrom(round, 0, 1);
            new BackTest(1, rule, another, another).pullFrom(round, 1, 2);
            new BackTest(2, rule, atOne, another).pullFrom(round, 2);
        }
        check.end();
    }

    /** Pulls the trip of solve, then one in which the first step holds these choices true, the lowest one first. */
    private void pullFrom(boolean round, int... held) {
        build();
        check.due("pull() of what solve has laid", true, chain.pull());
        check.due("choice(0) of what solve has laid", 0, chain.choice(0));
        List<Integer> trip = tripHolding(held);
        for (int i = 0; i < trip.size(); i++) {
            chain.put(i, trip.get(i));
        }
        if (round) {
            chain.turn(trip.size() / 3, true);
        }
        duePulled(runOf(held[0]));
    }

    private void build() {
        chain.machine(2, 2, bound);
        model.machine(2, 2, bound);
        for (int[] r : rules) {
            chain.rule(r[0], r[1], r[2], r[3], r[4]);
            model.rule(r[0], r[1], r[2], r[3], r[4]);
        }
        chain.build();
        model.build();
        chain.solve();
    }

    private int[] runOf(int choice) {
        int[] run = new int[bound];
        Arrays.fill(run, rules.length);
        run[0] = choice;
        return run;
    }

    private List<Integer> tripHolding(int[] held) {
        boolean[] truths = model.truthsOf(runOf(held[0]));
        for (int k : held) {
            truths[model.variables.get(Model.k(0, k))] = true;
        }
        model.setNewVariables(truths);
        return model.tripOf(model.coverOf(truths));
    }

    private void duePulled(int[] run) {
        check.due("cost()", model.cities, chain.cost());
        check.due("pull()", true, chain.pull());
        for (int i = 0; i < run.length; i++) {
            check.due("choice(" + i + ")", run[i], chain.choice(i));
        }
        boolean[] truths = model.truthsOf(run);
        for (int x = 0; x < truths.length; x++) {
            check.due("truth(" + x + ")", truths[x] ? 1 : 0, chain.truth(x));
        }
        for (int vertex = 0; vertex < model.vertices(); vertex++) {
            boolean covered = model.coverOf(truths).contains(vertex);
            check.due("covers(" + vertex + ")", covered ? 1 : 0, chain.covers(vertex));
        }
        check.due("replay()", true, chain.replay());
    }
}
