/**
 * The small machine that most tests by hand use: two states, two symbols, bound 1, and a rule that writes 1 and
 * accepts at once; the states that an object of it can be in; and what is due then.
 */
final class SmallChain {
    static final int VARIABLES = 22;
    static final int CLAUSES = 42;
    static final int THREES = 46;
    static final int VERTICES = 182;
    static final int EDGES = 298;
    static final int CITIES = 3690;
    static final int FIRST_SELECTOR = 12 * EDGES;

    private static final int NONE = TourChain.NONE;

    /** What has been done to an object of the small machine. */
    enum State {
        NEVER_BUILT, MACHINE_BEHIND_SOLVE, RULE_BEHIND_SOLVE, INPUT_BEHIND_SOLVE,
        BUILT, BUILT_BEHIND_SOLVE, SOLVED_WITHOUT_RUN,
        SOLVED, SOLVED_TWICE, PULLED, REFUSED_BEHIND_SOLVE;

        boolean isBuilt() {
            return compareTo(BUILT) >= 0;
        }

        boolean hasTrip() {
            return compareTo(SOLVED) >= 0;
        }

        TourChain make() {
            TourChain x = this == NEVER_BUILT || this == BUILT || this == SOLVED_WITHOUT_RUN ? unbuilt() : solved();
            switch (this) {
                case MACHINE_BEHIND_SOLVE: x.machine(2, 2, 1); break;
                case RULE_BEHIND_SOLVE: x.rule(0, 1, 0, 0, 0); break;
                case INPUT_BEHIND_SOLVE: x.input(0, 0); break;
                case BUILT: x.build(); break;
                case BUILT_BEHIND_SOLVE: x.build(); break;
                case SOLVED_WITHOUT_RUN: x.input(0, 1); x.build(); x.solve(); break;
                case SOLVED_TWICE: x.solve(); break;
                case PULLED: x.pull(); break;
                case REFUSED_BEHIND_SOLVE: x.machine(1, 1, 0); x.rule(1, 2, 2, 2, 3); x.input(2, 2); break;
                default: break;
            }
            return x;
        }
    }

    private final Check check;

    SmallChain(Check check) {
        this.check = check;
    }

    static TourChain unbuilt() {
        TourChain x = new TourChain();
        x.rule(0, 0, 1, 1, 1);
        return x;
    }

    static TourChain solved() {
        TourChain x = unbuilt();
        x.build();
        x.solve();
        return x;
    }

    void dueUnbuilt(String after, TourChain x) {
        check.due(after + ", count(0)", NONE, x.count(0));
        check.due(after + ", literal(0, 0)", NONE, x.literal(0, 0));
        check.due(after + ", three(0, 0)", NONE, x.three(0, 0));
        check.due(after + ", end(0, 0)", NONE, x.end(0, 0));
        check.due(after + ", apart(0, 0)", NONE, x.apart(0, 0));
        check.due(after + ", solve()", Check.STATE, () -> x.solve() ? 1 : 0);
        dueNoRun(after, x);
    }

    void dueNoRun(String after, TourChain x) {
        check.due(after + ", choice(0)", NONE, x.choice(0));
        check.due(after + ", truth(0)", NONE, x.truth(0));
        check.due(after + ", covers(0)", NONE, x.covers(0));
        check.due(after + ", city(0)", NONE, x.city(0));
        check.due(after + ", put(0, 0)", Check.STATE, () -> x.put(0, 0));
        check.due(after + ", put(-1, -1)", Check.STATE, () -> x.put(-1, -1));
        check.due(after + ", turn(0, false)", Check.STATE, () -> { x.turn(0, false); return 0; });
        check.due(after + ", turn(-1, true)", Check.STATE, () -> { x.turn(-1, true); return 0; });
        check.due(after + ", cost()", Check.STATE, () -> x.cost());
        check.due(after + ", pull()", Check.STATE, () -> x.pull() ? 1 : 0);
        check.due(after + ", replay()", Check.STATE, () -> x.replay() ? 1 : 0);
    }

    /** That a refused call has left the small machine's run and trip alone. */
    void dueSolved(String after, TourChain x) {
        check.due(after + ", count(7)", CITIES, x.count(7));
        check.due(after + ", choice(0)", 0, x.choice(0));
        check.due(after + ", city(0)", FIRST_SELECTOR, x.city(0));
        check.due(after + ", cost()", CITIES, () -> x.cost());
    }
}
