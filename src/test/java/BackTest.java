import java.util.Arrays;
import java.util.List;
import java.util.Set;
import java.util.TreeSet;

/**
 * BACK from good trips that no solve has laid. A trip by another cover of the same run takes some fifty puts, so that
 * the first of these tests stays within the 512 calls that are promised. The others need more, as far as I know, so
 * they hold the class to more than the document does; they alone show which choice BACK takes of several.
 */
public final class BackTest {
    private static final int MOST_CALLS = 512;
    private static final int[] RULE = {0, 0, 1, 1, 1};
    private static final int[] ANOTHER = {0, 0, 1, 0, 2};
    private static final int[] AT_ONE = {0, 1, 1, 0, 2};

    private static final Check check = new Check();

    private final int[][] rules;
    private final int bound;
    private final Model model = new Model();
    private final TourChain chain = new TourChain();
    private int calls = 0;

    private BackTest(int bound, int[]... rules) {
        this.bound = bound;
        this.rules = rules;
        build();
    }

    public static void main(String[] args) {
        anotherLiteralOut(1, RULE);
        anotherNewVariable(1, RULE);
        check.sentence("Terms", "the choice of each step is the lowest k whose K is true");
        for (boolean round : new boolean[] {false, true}) {
            new BackTest(1, RULE, RULE).pullFromChoices(round, 1);
            new BackTest(1, RULE, RULE).pullFromChoices(round, 0, 1);
            new BackTest(1, RULE, ANOTHER, ANOTHER).pullFromChoices(round, 1, 2);
            new BackTest(2, RULE, AT_ONE, ANOTHER).pullFromChoices(round, 2);
        }
        check.end();
    }

    /** Each three with several true literals: a cover without another one of them than the first. */
    private static void anotherLiteralOut(int bound, int[]... rules) {
        check.sentence("Promise 14", "Whether a vertex is in the run's cover.");
        int within = 0;
        Model plain = new BackTest(bound, rules).model;
        for (int j = 0; j < plain.count(3); j++) {
            for (int i = 0; i < 3; i++) {
                int literal = plain.three(j, i);
                int vertex = 2 * plain.count(2) + 3 * j + i;
                if (plain.truth(literal / 2) != literal % 2 && plain.covers(vertex) == 1) {
                    BackTest test = new BackTest(bound, rules);
                    Set<Integer> cover = new TreeSet<>(test.model.cover);
                    cover.addAll(Arrays.asList(vertex - i, vertex - i + 1, vertex - i + 2));
                    cover.remove(vertex);
                    test.pullFromCover(cover, false);
                    within += test.calls <= MOST_CALLS ? 1 : 0;
                }
            }
        }
        check.due("covers other than FORWARD's within 512 calls: " + within, true, within >= 20);
    }

    /** A new variable that may be true as well as false. */
    private static void anotherNewVariable(int bound, int[]... rules) {
        check.sentence("Promise 13", "Whether a variable is true in the run, FORWARD (1 or 0).");
        int tried = 0;
        Model plain = new BackTest(bound, rules).model;
        for (int y = plain.count(0); y < plain.count(2); y++) {
            BackTest test = new BackTest(bound, rules);
            boolean[] truths = test.model.truths.clone();
            truths[y] = !truths[y];
            if (test.model.haveEachThreeTrue(truths)) {
                test.pullFromCover(test.model.coverOf(truths), tried % 2 == 0);
                tried++;
            }
        }
        check.due("new variables that may be otherwise: " + tried, true, tried >= 3);
    }

    private void pullFromCover(Set<Integer> cover, boolean round) {
        putTrip(model.tripOf(cover), round);
        duePulled(model.choices);
    }

    /** Pulls the trip of solve, then one in which the first step holds these choices true, the lowest one first. */
    private void pullFromChoices(boolean round, int... held) {
        check.due("pull() of what solve has laid", true, chain.pull());
        check.due("choice(0) of what solve has laid", 0, chain.choice(0));
        boolean[] truths = model.truthsOf(runOf(held[0]));
        for (int k : held) {
            truths[model.variables.get(Model.k(0, k))] = true;
        }
        model.setNewVariables(truths);
        putTrip(model.tripOf(model.coverOf(truths)), round);
        duePulled(runOf(held[0]));
    }

    private void build() {
        chain.machine(2, 2, bound);
        model.machine(2, 2, bound);
        for (int[] r : rules) {
            chain.rule(r[0], r[1], r[2], r[3], r[4]);
            model.rule(r[0], r[1], r[2], r[3], r[4]);
        }
        chain.build();
        model.build();
        chain.solve();
        model.solve();
        calls = rules.length + 3;
    }

    private int[] runOf(int choice) {
        int[] run = new int[bound];
        Arrays.fill(run, rules.length);
        run[0] = choice;
        return run;
    }

    /** Puts what is another city in this trip, and pulls it; the trip stays as it was put. */
    private void putTrip(List<Integer> trip, boolean round) {
        int changed = 0;
        for (int i = 0; i < trip.size(); i++) {
            int was = model.city(i);
            if (was != trip.get(i)) {
                check.due("put(" + i + ", " + trip.get(i) + ")", was, chain.put(i, trip.get(i)));
                calls++;
                changed = i;
            }
        }
        // Turned round behind the last place that was changed, the trip begins with that one.
        chain.turn(round ? (changed + 1) % trip.size() : changed, round);
        check.due("city(0) before pull()", trip.get(changed), chain.city(0));
        check.due("cost()", model.cities, chain.cost());
        check.due("pull()", true, chain.pull());
        check.due("city(0) behind pull()", trip.get(changed), chain.city(0));
        calls += 5;
    }

    /** What is FORWARD from the run that was pulled, whatever cover the trip goes by. */
    private void duePulled(int[] run) {
        for (int i = 0; i < run.length; i++) {
            check.due("choice(" + i + ")", run[i], chain.choice(i));
        }
        boolean[] truths = model.truthsOf(run);
        for (int x = 0; x < truths.length; x++) {
            check.due("truth(" + x + ")", truths[x] ? 1 : 0, chain.truth(x));
        }
        Set<Integer> cover = model.coverOf(truths);
        for (int vertex = 0; vertex < model.vertices(); vertex++) {
            check.due("covers(" + vertex + ")", cover.contains(vertex) ? 1 : 0, chain.covers(vertex));
        }
        check.due("replay()", true, chain.replay());
        calls += run.length + truths.length + model.vertices() + 1;
    }
}
