import java.util.ArrayList;
import java.util.Arrays;
import java.util.Collections;
import java.util.HashSet;
import java.util.LinkedHashMap;
import java.util.List;
import java.util.Map;
import java.util.Set;

/**
 * The document once more, as plainly as can be and slowly: variables by their names, clauses as lists,
 * roads as a set of pairs, the trip as a list that is truly rotated and reversed.
 */
final class Model {
    int states = 2;
    int symbols = 2;
    int bound = 1;
    final List<int[]> rules = new ArrayList<>();
    int[] input = new int[2];
    boolean built = false;

    final Map<String, Integer> variables = new LinkedHashMap<>();
    int plain;
    final List<List<Integer>> clauses = new ArrayList<>();
    final List<int[]> threes = new ArrayList<>();
    final List<int[]> edges = new ArrayList<>();
    List<List<Integer>> edgesOf = new ArrayList<>();
    final Set<Long> roads = new HashSet<>();
    final Set<Integer> selectorNeighbours = new HashSet<>();
    int selectors;
    int cities;

    /** Null when there is no run, and no trip. */
    int[] choices;
    boolean[] truths;
    Set<Integer> cover;
    List<Integer> trip;

    boolean machine(int q, int g, int t) {
        if (q < 2 || q > 3 || g < 2 || g > 3 || t < 1 || t > 3) {
            return false;
        }
        states = q;
        symbols = g;
        bound = t;
        rules.clear();
        input = new int[t + 1];
        unbuild();
        return true;
    }

    int rule(int s, int a, int s2, int b, int d) {
        boolean fits = s >= 0 && s < states - 1 && a >= 0 && a < symbols && s2 >= 0 && s2 < states
            && b >= 0 && b < symbols && d >= 0 && d <= 2;
        if (!fits || rules.size() == 8) {
            return -1;
        }
        rules.add(new int[] {s, a, s2, b, d});
        unbuild();
        return rules.size() - 1;
    }

    boolean input(int cell, int symbol) {
        if (cell < 0 || cell > bound || symbol < 0 || symbol >= symbols) {
            return false;
        }
        input[cell] = symbol;
        unbuild();
        return true;
    }

    private void unbuild() {
        built = false;
        forgetRun();
    }

    private void forgetRun() {
        choices = null;
        truths = null;
        cover = null;
        trip = null;
    }

    int build() {
        variables.clear();
        clauses.clear();
        threes.clear();
        edges.clear();
        roads.clear();
        selectorNeighbours.clear();
        forgetRun();
        nameVariables();
        writeClauses();
        writeThrees();
        drawGraph();
        drawRoads();
        built = true;
        return cities;
    }

    private void name(String name) {
        variables.put(name, variables.size());
    }

    private void nameVariables() {
        for (int i = 0; i <= bound; i++) {
            for (int p = 0; p <= bound; p++) {
                for (int a = 0; a < symbols; a++) {
                    name(c(i, p, a));
                }
            }
        }
        for (int i = 0; i <= bound; i++) {
            for (int p = 0; p <= bound; p++) {
                name(h(i, p));
            }
        }
        for (int i = 0; i <= bound; i++) {
            for (int s = 0; s < states; s++) {
                name(q(i, s));
            }
        }
        for (int i = 0; i < bound; i++) {
            for (int k = 0; k <= rules.size(); k++) {
                name(k(i, k));
            }
        }
        plain = variables.size();
    }

    static String c(int i, int p, int a) {
        return "C " + i + " " + p + " " + a;
    }

    static String h(int i, int p) {
        return "H " + i + " " + p;
    }

    static String q(int i, int s) {
        return "Q " + i + " " + s;
    }

    static String k(int i, int k) {
        return "K " + i + " " + k;
    }

    /** A clause by the names of its literals; a name behind "not " is its not. */
    private void clause(String... names) {
        List<Integer> clause = new ArrayList<>();
        for (String name : names) {
            boolean not = name.startsWith("not ");
            clause.add(2 * variables.get(not ? name.substring(4) : name) + (not ? 1 : 0));
        }
        clauses.add(clause);
    }

    private void oneOf(List<String> names) {
        clause(names.toArray(new String[0]));
        for (int a = 0; a < names.size(); a++) {
            for (int b = a + 1; b < names.size(); b++) {
                clause("not " + names.get(a), "not " + names.get(b));
            }
        }
    }

    private void writeClauses() {
        for (int i = 0; i <= bound; i++) {
            for (int p = 0; p <= bound; p++) {
                List<String> all = new ArrayList<>();
                for (int a = 0; a < symbols; a++) {
                    all.add(c(i, p, a));
                }
                oneOf(all);
            }
        }
        for (int i = 0; i <= bound; i++) {
            List<String> all = new ArrayList<>();
            for (int p = 0; p <= bound; p++) {
                all.add(h(i, p));
            }
            oneOf(all);
        }
        for (int i = 0; i <= bound; i++) {
            List<String> all = new ArrayList<>();
            for (int s = 0; s < states; s++) {
                all.add(q(i, s));
            }
            oneOf(all);
        }
        for (int p = 0; p <= bound; p++) {
            clause(c(0, p, input[p]));
        }
        clause(h(0, 0));
        clause(q(0, 0));
        clause(q(bound, states - 1));
        for (int i = 0; i < bound; i++) {
            writeStep(i);
        }
    }

    private void writeStep(int i) {
        String[] all = new String[rules.size() + 1];
        for (int k = 0; k <= rules.size(); k++) {
            all[k] = k(i, k);
        }
        clause(all);
        for (int k = 0; k < rules.size(); k++) {
            int[] rule = rules.get(k);
            String n = "not " + k(i, k);
            clause(n, q(i, rule[0]));
            clause(n, q(i + 1, rule[2]));
            for (int p = 0; p <= bound; p++) {
                String elsewhere = "not " + h(i, p);
                clause(n, elsewhere, c(i, p, rule[1]));
                clause(n, elsewhere, c(i + 1, p, rule[3]));
                int target = p + rule[4] - 1;
                if (target < 0 || target > bound) {
                    clause(n, elsewhere);
                } else {
                    clause(n, elsewhere, h(i + 1, target));
                }
            }
        }
        String n = "not " + k(i, rules.size());
        clause(n, q(i, states - 1));
        clause(n, q(i + 1, states - 1));
        for (int p = 0; p <= bound; p++) {
            clause(n, "not " + h(i, p), h(i + 1, p));
            for (int a = 0; a < symbols; a++) {
                clause(n, "not " + h(i, p), "not " + c(i, p, a), c(i + 1, p, a));
            }
        }
        for (int p = 0; p <= bound; p++) {
            for (int a = 0; a < symbols; a++) {
                clause(h(i, p), "not " + c(i, p, a), c(i + 1, p, a));
            }
        }
    }

    static String y(int clause, int j) {
        return "y " + clause + " " + j;
    }

    private void writeThrees() {
        for (int at = 0; at < clauses.size(); at++) {
            List<Integer> l = clauses.get(at);
            int n = l.size();
            if (n == 1) {
                threes.add(new int[] {l.get(0), l.get(0), l.get(0)});
            } else if (n == 2) {
                threes.add(new int[] {l.get(0), l.get(1), l.get(1)});
            } else if (n == 3) {
                threes.add(new int[] {l.get(0), l.get(1), l.get(2)});
            } else {
                int[] y = new int[n - 2];
                for (int j = 1; j <= n - 3; j++) {
                    y[j] = variables.size();
                    name(y(at, j));
                }
                threes.add(new int[] {l.get(0), l.get(1), 2 * y[1]});
                for (int j = 2; j <= n - 3; j++) {
                    threes.add(new int[] {2 * y[j - 1] + 1, l.get(j), 2 * y[j]});
                }
                threes.add(new int[] {2 * y[n - 3] + 1, l.get(n - 2), l.get(n - 1)});
            }
        }
    }

    private void drawGraph() {
        int v = variables.size();
        for (int x = 0; x < v; x++) {
            edges.add(new int[] {2 * x, 2 * x + 1});
        }
        for (int j = 0; j < threes.size(); j++) {
            int first = 2 * v + 3 * j;
            edges.add(new int[] {first, first + 1});
            edges.add(new int[] {first + 1, first + 2});
            edges.add(new int[] {first, first + 2});
            edges.add(new int[] {first, threes.get(j)[0]});
            edges.add(new int[] {first + 1, threes.get(j)[1]});
            edges.add(new int[] {first + 2, threes.get(j)[2]});
        }
        edgesOf = new ArrayList<>();
        for (int vertex = 0; vertex < vertices(); vertex++) {
            edgesOf.add(new ArrayList<>());
        }
        for (int e = 0; e < edges.size(); e++) {
            edgesOf.get(edges.get(e)[0]).add(e);
            edgesOf.get(edges.get(e)[1]).add(e);
        }
        selectors = v + 2 * threes.size();
        cities = 12 * edges.size() + selectors;
    }

    int vertices() {
        return 2 * variables.size() + 3 * threes.size();
    }

    private void road(int a, int b) {
        roads.add((long) a * cities + b);
        roads.add((long) b * cities + a);
    }

    private int sideOf(int vertex, int edge) {
        return edges.get(edge)[0] == vertex ? 0 : 1;
    }

    private static int cityOf(int edge, int side, int i) {
        return 12 * edge + 6 * side + i;
    }

    private void drawRoads() {
        for (int e = 0; e < edges.size(); e++) {
            for (int side = 0; side < 2; side++) {
                for (int i = 0; i < 5; i++) {
                    road(cityOf(e, side, i), cityOf(e, side, i + 1));
                }
                road(cityOf(e, side, 2), cityOf(e, 1 - side, 0));
                road(cityOf(e, side, 5), cityOf(e, 1 - side, 3));
            }
        }
        for (int vertex = 0; vertex < vertices(); vertex++) {
            List<Integer> own = edgesOf.get(vertex);
            for (int at = 0; at + 1 < own.size(); at++) {
                road(cityOf(own.get(at), sideOf(vertex, own.get(at)), 5),
                    cityOf(own.get(at + 1), sideOf(vertex, own.get(at + 1)), 0));
            }
            int last = own.get(own.size() - 1);
            selectorNeighbours.add(cityOf(own.get(0), sideOf(vertex, own.get(0)), 0));
            selectorNeighbours.add(cityOf(last, sideOf(vertex, last), 5));
        }
    }

    boolean isSelector(int city) {
        return city >= 12 * edges.size();
    }

    int apart(int a, int b) {
        if (!built || a < 0 || b < 0 || a >= cities || b >= cities) {
            return -1;
        }
        if (a == b) {
            return 0;
        }
        boolean road = roads.contains((long) a * cities + b)
            || isSelector(a) && selectorNeighbours.contains(b)
            || isSelector(b) && selectorNeighbours.contains(a);
        return road ? 1 : 2;
    }

    int count(int what) {
        int[] all = {plain, clauses.size(), variables.size(), threes.size(), vertices(), edges.size(), selectors, cities};
        return built && what >= 0 && what < 8 ? all[what] : -1;
    }

    int literal(int clause, int i) {
        boolean is = built && clause >= 0 && clause < clauses.size() && i >= 0 && i < clauses.get(clause).size();
        return is ? clauses.get(clause).get(i) : -1;
    }

    int three(int j, int i) {
        return built && j >= 0 && j < threes.size() && i >= 0 && i < 3 ? threes.get(j)[i] : -1;
    }

    int end(int edge, int side) {
        return built && edge >= 0 && edge < edges.size() && side >= 0 && side < 2 ? edges.get(edge)[side] : -1;
    }

    /** The rows of a run (state, head, then the cells), or null when the choices can't be used or don't accept. */
    int[][] rowsOf(int[] tried) {
        int[][] rows = new int[bound + 1][bound + 3];
        System.arraycopy(input, 0, rows[0], 2, bound + 1);
        for (int i = 0; i < bound; i++) {
            rows[i + 1] = rows[i].clone();
            if (tried[i] == rules.size()) {
                if (rows[i][0] != states - 1) {
                    return null;
                }
            } else {
                int[] rule = rules.get(tried[i]);
                int head = rows[i][1];
                int target = head + rule[4] - 1;
                if (rows[i][0] != rule[0] || rows[i][2 + head] != rule[1] || target < 0 || target > bound) {
                    return null;
                }
                rows[i + 1][0] = rule[2];
                rows[i + 1][1] = target;
                rows[i + 1][2 + head] = rule[3];
            }
        }
        return rows[bound][0] == states - 1 ? rows : null;
    }

    boolean solve() {
        if (!built) {
            throw new IllegalStateException();
        }
        forgetRun();
        int base = rules.size() + 1;
        int all = 1;
        for (int i = 0; i < bound; i++) {
            all *= base;
        }
        for (int code = 0; code < all; code++) {
            int[] tried = new int[bound];
            int rest = code;
            for (int i = bound - 1; i >= 0; i--) {
                tried[i] = rest % base;
                rest /= base;
            }
            if (rowsOf(tried) != null) {
                choices = tried;
                truths = truthsOf(tried);
                cover = coverOf(truths);
                trip = tripOf(cover);
                return true;
            }
        }
        return false;
    }

    private static boolean isTrue(boolean[] truths, int literal) {
        return literal % 2 == 0 ? truths[literal / 2] : !truths[literal / 2];
    }

    boolean[] truthsOf(int[] run) {
        int[][] rows = rowsOf(run);
        boolean[] truths = new boolean[variables.size()];
        for (int i = 0; i <= bound; i++) {
            truths[variables.get(q(i, rows[i][0]))] = true;
            truths[variables.get(h(i, rows[i][1]))] = true;
            for (int p = 0; p <= bound; p++) {
                truths[variables.get(c(i, p, rows[i][2 + p]))] = true;
            }
        }
        for (int i = 0; i < bound; i++) {
            truths[variables.get(k(i, run[i]))] = true;
        }
        setNewVariables(truths);
        return truths;
    }

    void setNewVariables(boolean[] truths) {
        for (int at = 0; at < clauses.size(); at++) {
            for (int j = 1; j <= clauses.get(at).size() - 3; j++) {
                boolean none = true;
                for (int l = 1; l <= j + 1; l++) {
                    none &= !isTrue(truths, clauses.get(at).get(l - 1));
                }
                truths[variables.get(y(at, j))] = none;
            }
        }
    }

    boolean haveEachThreeTrue(boolean[] truths) {
        for (int[] three : threes) {
            if (!isTrue(truths, three[0]) && !isTrue(truths, three[1]) && !isTrue(truths, three[2])) {
                return false;
            }
        }
        return true;
    }

    Set<Integer> coverOf(boolean[] truths) {
        Set<Integer> cover = new HashSet<>();
        int v = variables.size();
        for (int x = 0; x < v; x++) {
            cover.add(truths[x] ? 2 * x : 2 * x + 1);
        }
        for (int j = 0; j < threes.size(); j++) {
            int out = 0;
            while (!isTrue(truths, threes.get(j)[out])) {
                out++;
            }
            for (int i = 0; i < 3; i++) {
                if (i != out) {
                    cover.add(2 * v + 3 * j + i);
                }
            }
        }
        return cover;
    }

    List<Integer> tripOf(Set<Integer> cover) {
        List<Integer> trip = new ArrayList<>();
        List<Integer> rising = new ArrayList<>(cover);
        Collections.sort(rising);
        int selector = 12 * edges.size();
        for (int vertex : rising) {
            trip.add(selector++);
            for (int e : edgesOf.get(vertex)) {
                int side = sideOf(vertex, e);
                boolean alone = !cover.contains(edges.get(e)[1 - side]);
                for (int i = 0; i < 6; i++) {
                    if (i == 3 && alone) {
                        for (int o = 0; o < 6; o++) {
                            trip.add(cityOf(e, 1 - side, o));
                        }
                    }
                    trip.add(cityOf(e, side, i));
                }
            }
        }
        return trip;
    }

    int choice(int i) {
        return choices != null && i >= 0 && i < bound ? choices[i] : -1;
    }

    int truth(int x) {
        return choices != null && x >= 0 && x < truths.length ? (truths[x] ? 1 : 0) : -1;
    }

    int covers(int vertex) {
        return choices != null && vertex >= 0 && vertex < vertices() ? (cover.contains(vertex) ? 1 : 0) : -1;
    }

    int city(int i) {
        return trip != null && i >= 0 && i < cities ? trip.get(i) : -1;
    }

    private void needTrip() {
        if (trip == null) {
            throw new IllegalStateException();
        }
    }

    int put(int i, int city) {
        needTrip();
        if (i < 0 || i >= cities || city < 0 || city >= cities) {
            throw new IllegalArgumentException();
        }
        return trip.set(i, city);
    }

    void turn(int n, boolean round) {
        needTrip();
        if (n < 0 || n >= cities) {
            throw new IllegalArgumentException();
        }
        Collections.rotate(trip, -n);
        if (round) {
            Collections.reverse(trip);
        }
    }

    int cost() {
        needTrip();
        if (new HashSet<>(trip).size() != cities) {
            return -1;
        }
        int sum = 0;
        for (int i = 0; i < cities; i++) {
            sum += apart(trip.get(i), trip.get((i + 1) % cities));
        }
        return sum;
    }

    boolean pull() {
        if (cost() != cities) {
            return false;
        }
        Set<Integer> found = new HashSet<>();
        for (int i = 0; i < cities; i++) {
            int behind = trip.get((i + 1) % cities);
            if (isSelector(trip.get(i))) {
                found.add(edges.get(behind / 12)[behind % 12 / 6]);
            }
        }
        choices = new int[bound];
        Arrays.fill(choices, -1);
        for (int i = 0; i < bound; i++) {
            for (int k = rules.size(); k >= 0; k--) {
                if (found.contains(2 * variables.get(k(i, k)))) {
                    choices[i] = k;
                }
            }
        }
        truths = truthsOf(choices);
        cover = coverOf(truths);
        return true;
    }

    boolean replay() {
        if (choices == null) {
            throw new IllegalStateException();
        }
        return rowsOf(choices) != null;
    }
}
