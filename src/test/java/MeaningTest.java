import java.util.ArrayList;
import java.util.Arrays;
import java.util.List;
import java.util.Random;

/**
 * "its runs become clauses, these clauses of three": for every row of choices, clauses and threes can be made true
 * with them just if they are an accepting run. This knows no clause by its place or form, so that it would find a
 * misreading that class and Model share, if it made the clauses say something else.
 */
public final class MeaningTest {
    /** No object is asked more than is promised; the rest is asked of a new one that was made alike. */
    private static final int MOST_CALLS = 480;

    private static final Check check = new Check();

    private final int states;
    private final int symbols;
    private final int bound;
    private final int[][] rules;
    private final int[] input;
    private TourChain chain;
    private int calls;

    private MeaningTest(Random random, int states, int symbols, int bound, int ruleCount) {
        this.states = states;
        this.symbols = symbols;
        this.bound = bound;
        rules = new int[ruleCount][];
        for (int k = 0; k < ruleCount; k++) {
            rules[k] = new int[] {random.nextInt(states - 1), random.nextInt(symbols), random.nextInt(states),
                random.nextInt(symbols), random.nextInt(3)};
        }
        input = new int[bound + 1];
        for (int p = 0; p <= bound; p++) {
            input[p] = random.nextInt(symbols);
        }
        makeChain();
    }

    public static void main(String[] args) {
        check.sentence("What it is", "its runs become clauses, these clauses of three");
        Random random = new Random(11);
        for (int n = 0; n < 384; n++) {
            new MeaningTest(random, 2 + n % 2, 2 + n / 2 % 2, 1 + n / 4 % 3, random.nextInt(9)).compare();
        }
        check.end();
    }

    private void makeChain() {
        chain = new TourChain();
        chain.machine(states, symbols, bound);
        for (int[] r : rules) {
            chain.rule(r[0], r[1], r[2], r[3], r[4]);
        }
        for (int p = 0; p <= bound; p++) {
            chain.input(p, input[p]);
        }
        chain.build();
        chain.solve();
        calls = 3 + rules.length + input.length;
    }

    private TourChain chain() {
        if (calls >= MOST_CALLS) {
            makeChain();
        }
        calls++;
        return chain;
    }

    private void compare() {
        Formula clauses = new Formula(chain().count(0), clauses());
        Formula threes = new Formula(chain().count(2), threes());
        int firstChoice = chain().count(0) - bound * (rules.length + 1);
        int[] lowest = null;
        int[] choices = new int[bound];
        do {
            boolean accepts = accepts(choices);
            if (accepts && lowest == null) {
                lowest = choices.clone();
            }
            List<Integer> held = held(firstChoice, choices);
            String what = this + ", with choices " + Arrays.toString(choices);
            check.due(what + ", the clauses can be true", accepts, clauses.canHold(held));
            check.due(what + ", the threes can be true", accepts, threes.canHold(held));
        } while (goOn(choices));
        compareChoices(lowest);
        if (lowest != null) {
            compareTruths(held(firstChoice, lowest), firstChoice, clauses, threes);
        }
    }

    /** The literals that say that the choices are these. */
    private List<Integer> held(int firstChoice, int[] choices) {
        List<Integer> held = new ArrayList<>();
        for (int i = 0; i < bound; i++) {
            held.add(2 * (firstChoice + i * (rules.length + 1) + choices[i]));
        }
        return held;
    }

    private void compareChoices(int[] lowest) {
        check.due(this + ", replay() tells of a run", lowest == null ? Check.STATE : 1, () -> chain().replay() ? 1 : 0);
        for (int i = 0; i < bound; i++) {
            check.due(this + ", choice(" + i + ")", lowest == null ? TourChain.NONE : lowest[i], chain().choice(i));
        }
    }

    /** What truth tells makes all true; and with the run's choices no C, H or Q can be otherwise. */
    private void compareTruths(List<Integer> held, int firstChoice, Formula clauses, Formula threes) {
        byte[] truths = new byte[chain().count(2)];
        for (int x = 0; x < truths.length; x++) {
            truths[x] = (byte) chain().truth(x);
        }
        check.due(this + ", truth makes the clauses true", true, clauses.isTrue(truths));
        check.due(this + ", truth makes the threes true", true, threes.isTrue(truths));
        for (int x = 0; x < firstChoice; x++) {
            held.add(2 * x + truths[x]);
            check.due(this + ", variable " + x + " can be otherwise", false, clauses.canHold(held));
            check.due(this + ", variable " + x + " can be otherwise in the threes", false, threes.canHold(held));
            held.remove(held.size() - 1);
        }
    }

    /** The next row of choices, compared from the first one; false behind the last. */
    private boolean goOn(int[] choices) {
        for (int i = bound - 1; i >= 0; i--) {
            if (choices[i] < rules.length) {
                choices[i]++;
                return true;
            }
            choices[i] = 0;
        }
        return false;
    }

    private boolean accepts(int[] choices) {
        int[] tape = input.clone();
        int head = 0;
        int state = 0;
        for (int k : choices) {
            boolean rests = k == rules.length;
            if (rests != (state == states - 1)) {
                return false;
            }
            if (!rests) {
                int[] r = rules[k];
                if (state != r[0] || tape[head] != r[1]) {
                    return false;
                }
                tape[head] = r[3];
                state = r[2];
                head += r[4] - 1;
                if (head < 0 || head > bound) {
                    return false;
                }
            }
        }
        return state == states - 1;
    }

    private int[][] clauses() {
        int[][] clauses = new int[chain().count(1)][];
        for (int c = 0; c < clauses.length; c++) {
            List<Integer> literals = new ArrayList<>();
            for (int l = chain().literal(c, 0); l != TourChain.NONE; l = chain().literal(c, literals.size())) {
                literals.add(l);
            }
            clauses[c] = literals.stream().mapToInt(l -> l).toArray();
        }
        return clauses;
    }

    private int[][] threes() {
        int[][] threes = new int[chain().count(3)][3];
        for (int j = 0; j < threes.length; j++) {
            for (int i = 0; i < 3; i++) {
                threes[j][i] = chain().three(j, i);
            }
        }
        return threes;
    }

    @Override
    public String toString() {
        return "machine(" + states + ", " + symbols + ", " + bound + ") with rules " + Arrays.deepToString(rules)
            + " and input " + Arrays.toString(input);
    }

    /** Clauses, and whether they can be made true: by what must follow, and else by trying. */
    private static final class Formula {
        private static final byte OPEN = 2;
        private static final int NO_LITERAL = -1;
        private static final int NOTHING_FOLLOWS = -2;
        private final int variables;
        private final int[][] clauses;

        Formula(int variables, int[][] clauses) {
            this.variables = variables;
            this.clauses = clauses;
        }

        boolean canHold(List<Integer> literals) {
            byte[] truths = new byte[variables];
            Arrays.fill(truths, OPEN);
            for (int l : literals) {
                truths[l / 2] = (byte) (1 - l % 2);
            }
            return canGoOn(truths);
        }

        boolean isTrue(byte[] truths) {
            for (int[] clause : clauses) {
                boolean some = false;
                for (int l : clause) {
                    some |= truths[l / 2] == 1 - l % 2;
                }
                if (!some) {
                    return false;
                }
            }
            return true;
        }

        private boolean canGoOn(byte[] truths) {
            if (!follow(truths)) {
                return false;
            }
            for (int x = 0; x < variables; x++) {
                if (truths[x] == OPEN) {
                    return canGoOnWith(truths, x, 1) || canGoOnWith(truths, x, 0);
                }
            }
            return true;
        }

        private boolean canGoOnWith(byte[] truths, int x, int truth) {
            byte[] tried = truths.clone();
            tried[x] = (byte) truth;
            return canGoOn(tried);
        }

        /** Sets each literal that is the last open one of its clause; false if a clause has none left. */
        private boolean follow(byte[] truths) {
            boolean changed = true;
            while (changed) {
                changed = false;
                for (int[] clause : clauses) {
                    int last = lastOpen(truths, clause);
                    if (last == NO_LITERAL) {
                        return false;
                    }
                    if (last >= 0) {
                        truths[last / 2] = (byte) (1 - last % 2);
                        changed = true;
                    }
                }
            }
            return true;
        }

        private static int lastOpen(byte[] truths, int[] clause) {
            int last = NO_LITERAL;
            for (int l : clause) {
                byte truth = truths[l / 2];
                if (truth == 1 - l % 2 || truth == OPEN && last >= 0 && last != l) {
                    return NOTHING_FOLLOWS;
                }
                if (truth == OPEN) {
                    last = l;
                }
            }
            return last;
        }
    }
}
