import java.util.Arrays;
import java.util.List;
import java.util.Set;

/**
 * BACK from good trips that no solve has laid. Such a trip needs more puts than the 512 calls that are promised, so
 * this holds the class to more than the document does; it is the one way to see which choice BACK takes of several.
 */
public final class BackTest {
    private static final Check check = new Check();

    public static void main(String[] args) {
        pullAnother(new int[][] {{0, 0, 1, 1, 1}, {0, 0, 1, 1, 1}}, 1, new int[] {1}, 1);
        pullAnother(new int[][] {{0, 0, 1, 1, 1}, {0, 0, 1, 1, 1}}, 1, new int[] {0, 1}, 0);
        pullAnother(new int[][] {{0, 0, 1, 1, 1}, {0, 0, 1, 0, 2}, {0, 0, 1, 0, 2}}, 1, new int[] {2, 1}, 1);
        pullAnother(new int[][] {{0, 0, 1, 1, 1}, {0, 1, 1, 0, 2}, {0, 0, 1, 0, 2}}, 2, new int[] {2}, 2);
        check.end();
    }

    /** Puts the trip in which the first step holds these choices true, and pulls it. */
    private static void pullAnother(int[][] rules, int bound, int[] held, int want) {
        for (int turned = 0; turned < 2; turned++) {
            TourChain chain = new TourChain();
            Model model = new Model();
            chain.machine(2, 2, bound);
            model.machine(2, 2, bound);
            for (int[] r : rules) {
                chain.rule(r[0], r[1], r[2], r[3], r[4]);
                model.rule(r[0], r[1], r[2], r[3], r[4]);
            }
            chain.build();
            model.build();
            chain.solve();
            check.due("choice(0) as solved", 0, chain.choice(0));
            int[] run = new int[bound];
            Arrays.fill(run, rules.length);
            run[0] = want;
            boolean[] truths = model.truthsOf(run);
            for (int k : held) {
                truths[model.variables.get(Model.k(0, k))] = true;
            }
            model.setNewVariables(truths);
            Set<Integer> cover = model.coverOf(truths);
            List<Integer> trip = model.tripOf(cover);
            for (int i = 0; i < trip.size(); i++) {
                chain.put(i, trip.get(i));
            }
            if (turned == 1) {
                chain.turn(trip.size() / 3, true);
            }
            duePulled(chain, model, run);
        }
    }

    private static void duePulled(TourChain chain, Model model, int[] run) {
        check.due("cost()", model.cities, chain.cost());
        check.due("pull()", true, chain.pull());
        for (int i = 0; i < run.length; i++) {
            check.due("choice(" + i + ")", run[i], chain.choice(i));
        }
        check.due("replay()", true, chain.replay());
        boolean[] truths = model.truthsOf(run);
        Set<Integer> cover = model.coverOf(truths);
        for (int x = 0; x < truths.length; x++) {
            check.due("truth(" + x + ")", truths[x] ? 1 : 0, chain.truth(x));
        }
        for (int vertex = 0; vertex < model.vertices(); vertex++) {
            check.due("covers(" + vertex + ")", cover.contains(vertex) ? 1 : 0, chain.covers(vertex));
        }
    }
}
