import java.util.Arrays;

/**
 * From a machine that may choose to a round trip of cities, and back from a trip to choices.
 * The promises that it keeps are those of the document, DOC.md.
 */
public final class TourChain {
    public static final int NONE = -1;

    private static final int MOST_RULES = 8;
    private static final int MOST_BOUND = 3;

    private final Machine machine = new Machine();
    private final Run run = new Run(machine);
    private final Formula formula = new Formula(machine);
    private final Graph graph = new Graph(formula);
    private final Forward forward = new Forward(run, formula, graph);
    private final Trip trip = new Trip(graph);
    private boolean built = false;
    // A run and a trip come and go together, so one mark serves both.
    private boolean solved = false;

    public TourChain() {
        machine.renew(2, 2, 1);
    }

    public boolean machine(int states, int symbols, int bound) {
        if (!isBetween(2, states, 3) || !isBetween(2, symbols, 3) || !isBetween(1, bound, MOST_BOUND)) {
            return false;
        }
        machine.renew(states, symbols, bound);
        unbuild();
        return true;
    }

    public int rule(int state, int symbol, int next, int write, int d) {
        if (machine.rules >= MOST_RULES || !machine.isRule(state, symbol, next, write, d)) {
            return NONE;
        }
        unbuild();
        return machine.addRule(state, symbol, next, write, d);
    }

    public boolean input(int cell, int symbol) {
        if (!isIndex(cell, machine.cells()) || !isIndex(symbol, machine.symbols)) {
            return false;
        }
        machine.tape[cell] = symbol;
        unbuild();
        return true;
    }

    public int build() {
        formula.write();
        graph.draw();
        built = true;
        solved = false;
        return graph.cities;
    }

    public int count(int what) {
        if (!built) {
            return NONE;
        }
        switch (what) {
            case 0: return formula.plainVariables;
            case 1: return formula.clauses();
            case 2: return formula.variables;
            case 3: return formula.threes();
            case 4: return graph.vertices;
            case 5: return graph.edges;
            case 6: return graph.selectors;
            case 7: return graph.cities;
            default: return NONE;
        }
    }

    public int literal(int clause, int i) {
        if (!built || !isIndex(clause, formula.clauses()) || !isIndex(i, formula.length(clause))) {
            return NONE;
        }
        return formula.literalOf(clause, i);
    }

    public int three(int j, int i) {
        if (!built || !isIndex(j, formula.threes()) || !isIndex(i, 3)) {
            return NONE;
        }
        return formula.literalOfThree(j, i);
    }

    public int end(int edge, int side) {
        if (!built || !isIndex(edge, graph.edges) || !isIndex(side, 2)) {
            return NONE;
        }
        return graph.vertexAt[2 * edge + side];
    }

    public int apart(int a, int b) {
        if (!built || !isIndex(a, graph.cities) || !isIndex(b, graph.cities)) {
            return NONE;
        }
        return graph.distance(a, b);
    }

    public boolean solve() throws IllegalStateException {
        if (!built) {
            throw new IllegalStateException("not built");
        }
        solved = run.find();
        if (solved) {
            forward.derive();
            trip.lay(forward.covered);
        }
        return solved;
    }

    public int choice(int i) {
        return solved && isIndex(i, machine.bound) ? run.choices[i] : NONE;
    }

    public int truth(int x) {
        return solved && isIndex(x, formula.variables) ? forward.truths[x] : NONE;
    }

    public int covers(int vertex) {
        return solved && isIndex(vertex, graph.vertices) ? forward.covered[vertex] : NONE;
    }

    public int city(int i) {
        return solved && isIndex(i, graph.cities) ? trip.at(i) : NONE;
    }

    public int put(int i, int city) throws IllegalStateException, IllegalArgumentException {
        requireTrip();
        if (!isIndex(i, graph.cities) || !isIndex(city, graph.cities)) {
            throw new IllegalArgumentException("no such place or city");
        }
        return trip.replace(i, city);
    }

    public void turn(int n, boolean round) throws IllegalStateException, IllegalArgumentException {
        requireTrip();
        if (!isIndex(n, graph.cities)) {
            throw new IllegalArgumentException("no such place");
        }
        trip.beginAt(n);
        if (round) {
            trip.reverse();
        }
    }

    public int cost() throws IllegalStateException {
        requireTrip();
        return trip.hasEachCityOnce() ? trip.total() : NONE;
    }

    public boolean pull() throws IllegalStateException {
        requireTrip();
        if (!trip.isGood()) {
            return false;
        }
        trip.pickCover();
        for (int i = 0; i < machine.bound; i++) {
            run.choices[i] = pickedChoice(i);
        }
        // What truth and covers tell is FORWARD from the run, and the run may be another one now.
        run.follow();
        forward.derive();
        return true;
    }

    public boolean replay() throws IllegalStateException {
        if (!solved) {
            throw new IllegalStateException("no run");
        }
        return run.follow();
    }

    private void unbuild() {
        built = false;
        solved = false;
    }

    private void requireTrip() {
        if (!solved) {
            throw new IllegalStateException("no trip");
        }
    }

    /** The lowest choice that the picked cover holds true; a good trip has one, so REST is what is left. */
    private int pickedChoice(int step) {
        for (int k = 0; k < machine.rules; k++) {
            if (trip.picked[yes(formula.choiceVariable(step, k))] == 1) {
                return k;
            }
        }
        return machine.rules;
    }

    private static boolean isBetween(int low, int x, int high) {
        return low <= x && x <= high;
    }

    private static boolean isIndex(int x, int n) {
        return 0 <= x && x < n;
    }

    private static int yes(int variable) {
        return 2 * variable;
    }

    private static int no(int variable) {
        return 2 * variable + 1;
    }

    /** The row itself if it is long enough; doubling keeps all rows ever made few and their sum small. */
    private static int[] roomFor(int[] row, int n) {
        return row.length >= n ? row : new int[Math.max(n, 2 * row.length)];
    }

    /** A row of numbers that grows; it is emptied and used again rather than made anew. */
    private static final class Row {
        int[] items = new int[64];
        int size = 0;

        void add(int item) {
            if (size == items.length) {
                items = Arrays.copyOf(items, 2 * size);
            }
            items[size] = item;
            size++;
        }
    }

    /** The machine: its sizes, its rules and its input. */
    private static final class Machine {
        int states;
        int symbols;
        int bound;
        // How many rules there are; this is the number of REST too.
        int rules;
        final int[] from = new int[MOST_RULES];
        final int[] read = new int[MOST_RULES];
        final int[] to = new int[MOST_RULES];
        final int[] written = new int[MOST_RULES];
        final int[] move = new int[MOST_RULES];
        final int[] tape = new int[MOST_BOUND + 1];

        void renew(int newStates, int newSymbols, int newBound) {
            states = newStates;
            symbols = newSymbols;
            bound = newBound;
            rules = 0;
            Arrays.fill(tape, 0);
        }

        boolean isRule(int state, int symbol, int next, int write, int d) {
            return isIndex(state, accept()) && isIndex(symbol, symbols)
                && isIndex(next, states) && isIndex(write, symbols) && isIndex(d, 3);
        }

        int addRule(int state, int symbol, int next, int write, int d) {
            from[rules] = state;
            read[rules] = symbol;
            to[rules] = next;
            written[rules] = write;
            move[rules] = d - 1;
            rules++;
            return rules - 1;
        }

        int accept() {
            return states - 1;
        }

        int cells() {
            return bound + 1;
        }

        int rows() {
            return bound + 1;
        }
    }

    /** Choices, and the rows that the machine goes through with them. */
    private static final class Run {
        final Machine machine;
        final int[] choices = new int[MOST_BOUND];
        final int[] heads = new int[MOST_BOUND + 1];
        final int[] states = new int[MOST_BOUND + 1];
        final int[][] cells = new int[MOST_BOUND + 1][MOST_BOUND + 1];

        Run(Machine machine) {
            this.machine = machine;
        }

        /** Whether there is an accepting run; the choices are the lowest such run's then. */
        boolean find() {
            begin();
            return findFrom(0);
        }

        private boolean findFrom(int step) {
            if (step >= machine.bound) {
                return accepts();
            }
            for (int k = 0; k <= machine.rules; k++) {
                if (canUse(step, k)) {
                    choices[step] = k;
                    use(step, k);
                    if (findFrom(step + 1)) {
                        return true;
                    }
                }
            }
            return false;
        }

        /** Whether the choices can be used one after the other, and end in ACCEPT. */
        boolean follow() {
            begin();
            for (int i = 0; i < machine.bound; i++) {
                if (!canUse(i, choices[i])) {
                    return false;
                }
                use(i, choices[i]);
            }
            return accepts();
        }

        private void begin() {
            heads[0] = 0;
            states[0] = 0;
            System.arraycopy(machine.tape, 0, cells[0], 0, machine.cells());
        }

        private boolean canUse(int step, int k) {
            if (k == machine.rules) {
                return states[step] == machine.accept();
            }
            int head = heads[step];
            return states[step] == machine.from[k] && cells[step][head] == machine.read[k]
                && isIndex(head + machine.move[k], machine.cells());
        }

        private void use(int step, int k) {
            boolean rests = k == machine.rules;
            int head = heads[step];
            System.arraycopy(cells[step], 0, cells[step + 1], 0, machine.cells());
            if (!rests) {
                cells[step + 1][head] = machine.written[k];
            }
            heads[step + 1] = rests ? head : head + machine.move[k];
            states[step + 1] = rests ? states[step] : machine.to[k];
        }

        private boolean accepts() {
            return states[machine.bound] == machine.accept();
        }
    }

    /** The variables, the clauses and the threes. */
    private static final class Formula {
        final Machine machine;
        // Without and with the new variables of the threes.
        int plainVariables;
        int variables;
        private int firstHead;
        private int firstState;
        private int firstChoice;
        // The clauses' literals in one row; starts has where each clause begins, and where the last one ends.
        private final Row literals = new Row();
        private final Row starts = new Row();
        private final Row threeLiterals = new Row();

        Formula(Machine machine) {
            this.machine = machine;
        }

        int clauses() {
            return starts.size - 1;
        }

        int length(int clause) {
            return starts.items[clause + 1] - starts.items[clause];
        }

        int literalOf(int clause, int i) {
            return literals.items[starts.items[clause] + i];
        }

        int threes() {
            return threeLiterals.size / 3;
        }

        int literalOfThree(int j, int i) {
            return threeLiterals.items[3 * j + i];
        }

        int cellVariable(int row, int cell, int symbol) {
            return (row * machine.cells() + cell) * machine.symbols + symbol;
        }

        int headVariable(int row, int cell) {
            return firstHead + row * machine.cells() + cell;
        }

        int stateVariable(int row, int state) {
            return firstState + row * machine.states + state;
        }

        int choiceVariable(int step, int k) {
            return firstChoice + step * (machine.rules + 1) + k;
        }

        void write() {
            numberVariables();
            literals.size = 0;
            starts.size = 0;
            starts.add(0);
            writeRows();
            writeEnds();
            for (int i = 0; i < machine.bound; i++) {
                writeStep(i);
            }
            writeThrees();
        }

        private void numberVariables() {
            firstHead = machine.rows() * machine.cells() * machine.symbols;
            firstState = firstHead + machine.rows() * machine.cells();
            firstChoice = firstState + machine.rows() * machine.states;
            plainVariables = firstChoice + machine.bound * (machine.rules + 1);
        }

        private void writeRows() {
            for (int i = 0; i < machine.rows(); i++) {
                for (int p = 0; p < machine.cells(); p++) {
                    justOne(cellVariable(i, p, 0), machine.symbols);
                }
            }
            for (int i = 0; i < machine.rows(); i++) {
                justOne(headVariable(i, 0), machine.cells());
            }
            for (int i = 0; i < machine.rows(); i++) {
                justOne(stateVariable(i, 0), machine.states);
            }
        }

        private void writeEnds() {
            for (int p = 0; p < machine.cells(); p++) {
                clause(yes(cellVariable(0, p, machine.tape[p])));
            }
            clause(yes(headVariable(0, 0)));
            clause(yes(stateVariable(0, 0)));
            clause(yes(stateVariable(machine.bound, machine.accept())));
        }

        private void writeStep(int i) {
            someOf(choiceVariable(i, 0), machine.rules + 1);
            for (int k = 0; k < machine.rules; k++) {
                writeRule(i, k);
            }
            writeRest(i);
            for (int p = 0; p < machine.cells(); p++) {
                for (int a = 0; a < machine.symbols; a++) {
                    clause(yes(headVariable(i, p)), no(cellVariable(i, p, a)), yes(cellVariable(i + 1, p, a)));
                }
            }
        }

        private void writeRule(int i, int k) {
            int n = no(choiceVariable(i, k));
            clause(n, yes(stateVariable(i, machine.from[k])));
            clause(n, yes(stateVariable(i + 1, machine.to[k])));
            for (int p = 0; p < machine.cells(); p++) {
                int notHere = no(headVariable(i, p));
                int target = p + machine.move[k];
                clause(n, notHere, yes(cellVariable(i, p, machine.read[k])));
                clause(n, notHere, yes(cellVariable(i + 1, p, machine.written[k])));
                if (isIndex(target, machine.cells())) {
                    clause(n, notHere, yes(headVariable(i + 1, target)));
                } else {
                    clause(n, notHere);
                }
            }
        }

        private void writeRest(int i) {
            int n = no(choiceVariable(i, machine.rules));
            clause(n, yes(stateVariable(i, machine.accept())));
            clause(n, yes(stateVariable(i + 1, machine.accept())));
            for (int p = 0; p < machine.cells(); p++) {
                int notHere = no(headVariable(i, p));
                clause(n, notHere, yes(headVariable(i + 1, p)));
                for (int a = 0; a < machine.symbols; a++) {
                    clause(n, notHere, no(cellVariable(i, p, a)), yes(cellVariable(i + 1, p, a)));
                }
            }
        }

        /** One of n variables that stand side by side, and no two of them. */
        private void justOne(int first, int n) {
            someOf(first, n);
            for (int a = first; a < first + n; a++) {
                for (int b = a + 1; b < first + n; b++) {
                    clause(no(a), no(b));
                }
            }
        }

        private void someOf(int first, int n) {
            for (int x = first; x < first + n; x++) {
                literals.add(yes(x));
            }
            starts.add(literals.size);
        }

        private void clause(int a) {
            literals.add(a);
            starts.add(literals.size);
        }

        private void clause(int a, int b) {
            literals.add(a);
            literals.add(b);
            starts.add(literals.size);
        }

        private void clause(int a, int b, int c) {
            literals.add(a);
            literals.add(b);
            literals.add(c);
            starts.add(literals.size);
        }

        private void clause(int a, int b, int c, int d) {
            literals.add(a);
            literals.add(b);
            literals.add(c);
            literals.add(d);
            starts.add(literals.size);
        }

        private void writeThrees() {
            variables = plainVariables;
            threeLiterals.size = 0;
            for (int clause = 0; clause < clauses(); clause++) {
                int n = length(clause);
                if (n > 3) {
                    splitClause(clause, n);
                } else {
                    // A short clause repeats its last literal.
                    addThree(literalOf(clause, 0), literalOf(clause, Math.min(1, n - 1)), literalOf(clause, n - 1));
                }
            }
        }

        private void splitClause(int clause, int n) {
            addThree(literalOf(clause, 0), literalOf(clause, 1), yes(variables));
            for (int i = 2; i < n - 2; i++) {
                addThree(no(variables), literalOf(clause, i), yes(variables + 1));
                variables++;
            }
            addThree(no(variables), literalOf(clause, n - 2), literalOf(clause, n - 1));
            variables++;
        }

        private void addThree(int a, int b, int c) {
            threeLiterals.add(a);
            threeLiterals.add(b);
            threeLiterals.add(c);
        }
    }

    /** The graph to be covered, and the roads among the cities that are made of it. */
    private static final class Graph {
        final Formula formula;
        int vertices;
        int edges;
        int selectors;
        int cities;
        // Side 2 e + s is end s of edge e; its cities are 6 (2 e + s) and the five behind.
        int[] vertexAt = new int[0];
        // All sides, vertex by vertex, each vertex's in rising order, and where each side stands there.
        int[] sides = new int[0];
        private int[] standing = new int[0];
        // Where each vertex's sides begin among them, and at last where all end.
        int[] starts = new int[0];

        Graph(Formula formula) {
            this.formula = formula;
        }

        int firstSelector() {
            return 12 * edges;
        }

        void draw() {
            int v = formula.variables;
            int c = formula.threes();
            vertices = 2 * v + 3 * c;
            edges = v + 6 * c;
            selectors = v + 2 * c;
            cities = 12 * edges + selectors;
            vertexAt = roomFor(vertexAt, 2 * edges);
            for (int x = 0; x < v; x++) {
                join(x, yes(x), no(x));
            }
            for (int j = 0; j < c; j++) {
                drawThree(j, v + 6 * j, 2 * v + 3 * j);
            }
            sortSides();
        }

        private void drawThree(int j, int edge, int vertex) {
            join(edge, vertex, vertex + 1);
            join(edge + 1, vertex + 1, vertex + 2);
            join(edge + 2, vertex, vertex + 2);
            for (int i = 0; i < 3; i++) {
                join(edge + 3 + i, vertex + i, formula.literalOfThree(j, i));
            }
        }

        private void join(int edge, int a, int b) {
            vertexAt[2 * edge] = a;
            vertexAt[2 * edge + 1] = b;
        }

        private void sortSides() {
            int n = 2 * edges;
            sides = roomFor(sides, n);
            standing = roomFor(standing, n);
            starts = roomFor(starts, vertices + 1);
            Arrays.fill(starts, 0, vertices + 1, 0);
            for (int side = 0; side < n; side++) {
                starts[vertexAt[side]]++;
            }
            for (int vertex = 1; vertex <= vertices; vertex++) {
                starts[vertex] += starts[vertex - 1];
            }
            // Each start is its vertex's end so far; filling from the last side on brings it down to the start.
            for (int side = n - 1; side >= 0; side--) {
                int vertex = vertexAt[side];
                starts[vertex]--;
                standing[side] = starts[vertex];
                sides[starts[vertex]] = side;
            }
        }

        int distance(int a, int b) {
            if (a == b) {
                return 0;
            }
            return leadsTo(a, b) || leadsTo(b, a) ? 1 : 2;
        }

        /** Whether there is a road that the document names from a to b; it may be gone both ways. */
        private boolean leadsTo(int a, int b) {
            if (b >= firstSelector()) {
                return false;
            }
            if (a >= firstSelector()) {
                return isOuter(b / 6, b % 6);
            }
            int side = a / 6;
            int other = b / 6;
            int i = a % 6;
            int k = b % 6;
            if (side == other) {
                return k == i + 1;
            }
            if ((side ^ 1) == other) {
                return i == 2 && k == 0 || i == 5 && k == 3;
            }
            return i == 5 && k == 0 && vertexAt[side] == vertexAt[other] && standing[other] == standing[side] + 1;
        }

        /** Whether city i of a side is 0 of its vertex's first one or 5 of its last one. */
        private boolean isOuter(int side, int i) {
            int vertex = vertexAt[side];
            return i == 0 && standing[side] == starts[vertex]
                || i == 5 && standing[side] == starts[vertex + 1] - 1;
        }
    }

    /** FORWARD from a run: which variables are true, and the cover (1 or 0 for each). */
    private static final class Forward {
        final Run run;
        final Formula formula;
        final Graph graph;
        int[] truths = new int[0];
        int[] covered = new int[0];

        Forward(Run run, Formula formula, Graph graph) {
            this.run = run;
            this.formula = formula;
            this.graph = graph;
        }

        void derive() {
            truths = roomFor(truths, formula.variables);
            covered = roomFor(covered, graph.vertices);
            Arrays.fill(truths, 0, formula.variables, 0);
            markRows();
            markNewVariables();
            coverLiterals();
            coverThrees();
        }

        private void markRows() {
            Machine machine = run.machine;
            for (int i = 0; i < machine.rows(); i++) {
                for (int p = 0; p < machine.cells(); p++) {
                    truths[formula.cellVariable(i, p, run.cells[i][p])] = 1;
                }
                truths[formula.headVariable(i, run.heads[i])] = 1;
                truths[formula.stateVariable(i, run.states[i])] = 1;
            }
            for (int i = 0; i < machine.bound; i++) {
                truths[formula.choiceVariable(i, run.choices[i])] = 1;
            }
        }

        private void markNewVariables() {
            int y = formula.plainVariables;
            for (int clause = 0; clause < formula.clauses(); clause++) {
                boolean some = isTrue(formula.literalOf(clause, 0));
                int made = formula.length(clause) - 3;
                for (int i = 1; i <= made; i++) {
                    some = some || isTrue(formula.literalOf(clause, i));
                    truths[y] = some ? 0 : 1;
                    y++;
                }
            }
        }

        private void coverLiterals() {
            for (int vertex = 0; vertex < 2 * formula.variables; vertex++) {
                covered[vertex] = isTrue(vertex) ? 1 : 0;
            }
        }

        private void coverThrees() {
            int vertex = 2 * formula.variables;
            for (int j = 0; j < formula.threes(); j++) {
                boolean found = false;
                for (int i = 0; i < 3; i++) {
                    boolean isFirst = !found && isTrue(formula.literalOfThree(j, i));
                    covered[vertex] = isFirst ? 0 : 1;
                    found = found || isFirst;
                    vertex++;
                }
            }
        }

        private boolean isTrue(int literal) {
            return truths[literal / 2] != literal % 2;
        }
    }

    /** A row of all cities. */
    private static final class Trip {
        final Graph graph;
        // The vertices that BACK finds (1 or 0 for each).
        int[] picked = new int[0];
        private int[] row = new int[0];
        // Turning moves no city: the trip begins somewhere in the row and goes on by one or by minus one.
        private int first;
        private int step;
        private int[] seenBits = new int[0];

        Trip(Graph graph) {
            this.graph = graph;
        }

        void lay(int[] covered) {
            row = roomFor(row, graph.cities);
            first = 0;
            step = 1;
            int at = 0;
            int selector = graph.firstSelector();
            for (int vertex = 0; vertex < graph.vertices; vertex++) {
                if (covered[vertex] == 1) {
                    at = layCities(at, selector, 1);
                    selector++;
                    at = layVertex(at, vertex, covered);
                }
            }
        }

        private int layVertex(int from, int vertex, int[] covered) {
            int at = from;
            for (int s = graph.starts[vertex]; s < graph.starts[vertex + 1]; s++) {
                int side = graph.sides[s];
                int other = side ^ 1;
                at = layCities(at, 6 * side, 3);
                if (covered[graph.vertexAt[other]] == 0) {
                    at = layCities(at, 6 * other, 6);
                }
                at = layCities(at, 6 * side + 3, 3);
            }
            return at;
        }

        private int layCities(int at, int firstCity, int n) {
            for (int i = 0; i < n; i++) {
                row[at + i] = firstCity + i;
            }
            return at + n;
        }

        int at(int place) {
            return row[indexOf(place)];
        }

        int replace(int place, int newCity) {
            int index = indexOf(place);
            int old = row[index];
            row[index] = newCity;
            return old;
        }

        void beginAt(int place) {
            first = indexOf(place);
        }

        void reverse() {
            first = indexOf(graph.cities - 1);
            step = -step;
        }

        private int indexOf(int place) {
            return Math.floorMod(first + step * place, graph.cities);
        }

        boolean hasEachCityOnce() {
            int words = graph.cities / 32 + 1;
            seenBits = roomFor(seenBits, words);
            Arrays.fill(seenBits, 0, words, 0);
            for (int i = 0; i < graph.cities; i++) {
                int bit = 1 << row[i] % 32;
                if ((seenBits[row[i] / 32] & bit) != 0) {
                    return false;
                }
                seenBits[row[i] / 32] |= bit;
            }
            return true;
        }

        int total() {
            int sum = graph.distance(row[graph.cities - 1], row[0]);
            for (int i = 1; i < graph.cities; i++) {
                sum += graph.distance(row[i - 1], row[i]);
            }
            return sum;
        }

        boolean isGood() {
            return hasEachCityOnce() && total() == graph.cities;
        }

        /** BACK: the vertices whose sides stand behind the selectors; the trip is good. */
        void pickCover() {
            picked = roomFor(picked, graph.vertices);
            Arrays.fill(picked, 0, graph.vertices, 0);
            for (int i = 0; i < graph.cities; i++) {
                if (at(i) >= graph.firstSelector()) {
                    pickVertexOf(at((i + 1) % graph.cities));
                }
            }
        }

        private void pickVertexOf(int city) {
            if (city < graph.firstSelector()) {
                picked[graph.vertexAt[city / 6]] = 1;
            }
        }
    }
}
