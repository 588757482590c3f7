import java.util.List;
import java.util.Random;

/** Every number that the chain has, for machines small and large, against the Model. */
public final class WholeTest {
    /** No object is asked more than is promised; the rest is asked of a new one that was made alike. */
    private static final int MOST_CALLS = 480;

    private static final Check check = new Check();

    private final int[] sizes;
    private final int[][] rules;
    private final int[] input;
    private final Model model = new Model();
    private TourChain chain;
    private int calls;

    private WholeTest(int[] sizes, int[][] rules, int[] input) {
        this.sizes = sizes;
        this.rules = rules;
        this.input = input;
    }

    public static void main(String[] args) {
        int[][] none = {};
        new WholeTest(new int[] {2, 2, 1}, none, new int[] {0, 0}).compareAll();
        new WholeTest(new int[] {3, 3, 3}, none, new int[] {0, 1, 2, 0}).compareAll();
        new WholeTest(new int[] {2, 2, 1}, new int[][] {{0, 1, 1, 0, 2}}, new int[] {1, 0}).compareAll();
        // The largest there is: no move leaves the cells, so no clause is short.
        int[][] largest = new int[8][];
        for (int k = 0; k < 8; k++) {
            largest[k] = new int[] {k % 2, k % 3, k < 7 ? 1 : 2, (k + 1) % 3, 1};
        }
        new WholeTest(new int[] {3, 3, 3}, largest, new int[] {0, 2, 1, 2}).compareAll();
        Random random = new Random(7);
        for (int n = 0; n < 24; n++) {
            randomMachine(random).compareAll();
        }
        check.end();
    }

    private static WholeTest randomMachine(Random random) {
        int[] sizes = {2 + random.nextInt(2), 2 + random.nextInt(2), 1 + random.nextInt(3)};
        int[][] rules = new int[random.nextInt(9)][];
        for (int k = 0; k < rules.length; k++) {
            rules[k] = new int[] {random.nextInt(sizes[0] - 1), random.nextInt(sizes[1]), random.nextInt(sizes[0]),
                random.nextInt(sizes[1]), random.nextInt(3)};
        }
        int[] input = new int[sizes[2] + 1];
        for (int p = 0; p < input.length; p++) {
            input[p] = random.nextInt(sizes[1]);
        }
        return new WholeTest(sizes, rules, input);
    }

    private void compareAll() {
        model.machine(sizes[0], sizes[1], sizes[2]);
        for (int[] rule : rules) {
            model.rule(rule[0], rule[1], rule[2], rule[3], rule[4]);
        }
        for (int p = 0; p < input.length; p++) {
            model.input(p, input[p]);
        }
        model.build();
        model.solve();
        makeChain();
        compareClauses();
        compareGraph();
        compareRun();
        compareRoads();
    }

    private void makeChain() {
        chain = new TourChain();
        check.due("machine", true, chain.machine(sizes[0], sizes[1], sizes[2]));
        for (int k = 0; k < rules.length; k++) {
            check.due("rule", k, chain.rule(rules[k][0], rules[k][1], rules[k][2], rules[k][3], rules[k][4]));
        }
        for (int p = 0; p < input.length; p++) {
            check.due("input", true, chain.input(p, input[p]));
        }
        check.due("build()", model.cities, chain.build());
        check.due("solve()", model.choices != null, chain.solve());
        calls = 3 + rules.length + input.length;
    }

    private TourChain chain() {
        if (calls >= MOST_CALLS) {
            makeChain();
        }
        calls++;
        return chain;
    }

    private void compareClauses() {
        for (int what = -1; what <= 8; what++) {
            check.due("count(" + what + ")", model.count(what), chain().count(what));
        }
        for (int clause = -1; clause <= model.clauses.size(); clause++) {
            int length = model.literal(clause, 0) < 0 ? 1 : model.clauses.get(clause).size();
            for (int i = -1; i <= length; i++) {
                check.due("literal(" + clause + ", " + i + ")", model.literal(clause, i), chain().literal(clause, i));
            }
        }
        for (int j = -1; j <= model.threes.size(); j++) {
            for (int i = -1; i <= 3; i++) {
                check.due("three(" + j + ", " + i + ")", model.three(j, i), chain().three(j, i));
            }
        }
    }

    private void compareGraph() {
        for (int edge = -1; edge <= model.edges.size(); edge++) {
            for (int side = -1; side <= 2; side++) {
                check.due("end(" + edge + ", " + side + ")", model.end(edge, side), chain().end(edge, side));
            }
        }
    }

    private void compareRun() {
        for (int i = -1; i <= sizes[2]; i++) {
            check.due("choice(" + i + ")", model.choice(i), chain().choice(i));
        }
        for (int x = -1; x <= model.variables.size(); x++) {
            check.due("truth(" + x + ")", model.truth(x), chain().truth(x));
        }
        for (int vertex = -1; vertex <= model.vertices(); vertex++) {
            check.due("covers(" + vertex + ")", model.covers(vertex), chain().covers(vertex));
        }
        for (int i = -1; i <= model.cities; i++) {
            check.due("city(" + i + ")", model.city(i), chain().city(i));
        }
        boolean solved = model.choices != null;
        TourChain asked = chain();
        check.due("cost()", solved ? model.cities : Check.STATE, () -> asked.cost());
        check.due("replay()", solved ? 1 : Check.STATE, () -> asked.replay() ? 1 : 0);
    }

    private void compareRoads() {
        Random random = new Random(model.cities);
        for (long road : model.roads) {
            compareApart((int) (road / model.cities), (int) (road % model.cities));
        }
        for (int city : model.selectorNeighbours) {
            int selector = model.cities - 1 - random.nextInt(model.selectors);
            compareApart(city, selector);
            compareApart(selector, city);
        }
        for (int n = 0; n < 4000; n++) {
            int a = random.nextInt(model.cities);
            compareApart(a, random.nextInt(model.cities));
            compareApart(a, a + random.nextInt(30) - 15);
            compareApart(a, model.cities - 1 - random.nextInt(model.selectors));
            compareApart(a, otherOfItsVertex(a, random));
        }
        compareApart(-1, -1);
        compareApart(model.cities, model.cities);
        compareApart(0, model.cities);
        compareApart(model.cities - 1, model.cities - 1);
    }

    /** A city of the same vertex's sides: near to a road, and mostly none. */
    private int otherOfItsVertex(int city, Random random) {
        if (model.isSelector(city)) {
            return model.cities - 1;
        }
        int vertex = model.end(city / 12, city % 12 / 6);
        List<Integer> edges = model.edgesOf.get(vertex);
        int edge = edges.get(random.nextInt(edges.size()));
        int side = model.end(edge, 0) == vertex ? 0 : 1;
        return 12 * edge + 6 * side + (random.nextBoolean() ? 0 : 5);
    }

    private void compareApart(int a, int b) {
        check.due("apart(" + a + ", " + b + ")", model.apart(a, b), chain().apart(a, b));
    }
}
