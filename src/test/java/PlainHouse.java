import java.util.ArrayList;
import java.util.Arrays;
import java.util.Collections;
import java.util.HashMap;
import java.util.HashSet;
import java.util.LinkedHashSet;
import java.util.List;
import java.util.Map;
import java.util.NoSuchElementException;
import java.util.Set;
import java.util.TreeMap;
import java.util.TreeSet;

/**
 * The document once more, as plainly as it can be written and with no thought of speed: one choice
 * at a time, trees as calls that call themselves, sets as sets. RandomRuns holds Miterhouse to it.
 */
public final class PlainHouse {
    private final List<Character> kinds = new ArrayList<>();
    private final List<Integer> owners = new ArrayList<>();
    private final List<Integer> ones = new ArrayList<>();
    private final List<Integer> twos = new ArrayList<>();
    private final List<Integer> firsts = new ArrayList<>();
    private final List<Integer> names = new ArrayList<>();
    private final List<List<Integer>> outputs = List.of(new ArrayList<>(), new ArrayList<>());
    private final List<Integer> constraints = new ArrayList<>();
    private final List<Integer> patternList = new ArrayList<>();
    private final Map<Integer, Integer> mergedInto = new TreeMap<>();
    private final Map<Integer, Integer> mergeSizes = new TreeMap<>();
    private final int[][][] polynomials = new int[2][4][4];
    private List<Integer> order = new ArrayList<>();
    private final List<int[]> nodes = new ArrayList<>();
    private final List<Integer> literals = new ArrayList<>();
    private boolean closed;

    public int input() {
        open();
        if (lines() == 80 || inputs().size() == 6) {
            throw new IllegalStateException();
        }
        return add('i', 2, -1, -1, 0, 0);
    }

    public int cell(int net, int first, int name) {
        range(net, 0, 1);
        range(first, 0, 1);
        range(name, 0, 9);
        open();
        int cells = 0;
        for (int c : cells()) {
            if (owners.get(c) == net) {
                cells++;
                if (names.get(c) == name) {
                    throw new UnsupportedOperationException();
                }
            }
        }
        if (lines() == 80 || cells == 4) {
            throw new IllegalStateException();
        }
        return add('c', net, -1, -1, first, name);
    }

    public int gate(int net, char kind, int one, int two) {
        range(net, 0, 1);
        if ("aoxnrbv".indexOf(kind) < 0) {
            throw new IllegalArgumentException();
        }
        boolean single = "bv".indexOf(kind) >= 0;
        line(one);
        if (!single) {
            line(two);
        }
        open();
        ofNet(net, one);
        if (!single) {
            ofNet(net, two);
        }
        if (lines() == 80) {
            throw new IllegalStateException();
        }
        return add(kind, net, one, single ? -1 : two, 0, 0);
    }

    public int data(int cell, int line) {
        line(cell);
        line(line);
        open();
        isCell(cell);
        ofNet(owners.get(cell), line);
        return ones.set(cell, line);
    }

    public int output(int net, int line) {
        range(net, 0, 1);
        line(line);
        open();
        ofNet(net, line);
        if (outputs.get(net).size() == 4) {
            throw new IllegalStateException();
        }
        outputs.get(net).add(line);
        return outputs.get(net).size() - 1;
    }

    public int close() {
        open();
        for (int c : cells()) {
            if (ones.get(c) < 0) {
                throw new UnsupportedOperationException();
            }
        }
        if (outputs.get(0).size() != outputs.get(1).size() || outputs.get(0).isEmpty()) {
            throw new UnsupportedOperationException();
        }
        closed = true;
        for (int s = 0; s < sources().size(); s++) {
            order.add(s);
        }
        nodes.add(new int[0]);
        for (int s : sources()) {
            nodes.add(new int[0]);
        }
        for (int l = 0; l < lines(); l++) {
            literals.add(makeLiteral(l));
        }
        return sources().size();
    }

    public int constrain(int line) {
        line(line);
        shut();
        List<Integer> all = new ArrayList<>(constraints);
        all.add(line);
        int kept = 0;
        for (int choice = 0; choice < choices(); choice++) {
            kept += keeps(all, choice) ? 1 : 0;
        }
        if (cone(line).stream().anyMatch(l -> kinds.get(l) == 'c') || kept == 0) {
            throw new UnsupportedOperationException();
        }
        if (constraints.size() == 4) {
            throw new IllegalStateException();
        }
        constraints.add(line);
        return kept;
    }

    public int value(int line, int choice) {
        line(line);
        range(choice, 0, choices() - 1);
        shut();
        return values(choice, -1, -1)[line];
    }

    public int literal(int line) {
        line(line);
        shut();
        return literals.get(line);
    }

    public int ands() {
        shut();
        return nodes.size() - 1 - sources().size();
    }

    public int pin(int node, boolean isFirst) {
        shut();
        if (node < 0 || node >= nodes.size() || nodes.get(node).length == 0) {
            throw new NoSuchElementException();
        }
        return nodes.get(node)[isFirst ? 0 : 1];
    }

    public int pattern(int choice) {
        range(choice, 0, choices() - 1);
        shut();
        if (!keeps(constraints, choice)) {
            throw new UnsupportedOperationException();
        }
        if (patternList.size() == 64) {
            throw new IllegalStateException();
        }
        patternList.add(choice);
        return patternList.size() - 1;
    }

    public long signature(int line) {
        line(line);
        shut();
        long sum = 0;
        for (int k = 0; k < patternList.size(); k++) {
            sum |= (long) values(patternList.get(k), -1, -1)[line] << k;
        }
        return sum;
    }

    public int candidates(int line) {
        line(line);
        shut();
        int count = 0;
        for (int other = 0; other < lines(); other++) {
            if (other != line && (alike(line, other, 0) || alike(line, other, 1))) {
                count++;
            }
        }
        return count;
    }

    public char prove(int line, int other, boolean isInverted, int budget) {
        line(line);
        line(other);
        range(budget, 1, 20000);
        shut();
        Tree tree = new Tree(line, other, isInverted, budget);
        return tree.gaveUp ? 'u' : tree.differs >= 0 ? 'd' : 'e';
    }

    public int proof(int line, int other, boolean isInverted) {
        line(line);
        line(other);
        shut();
        Tree tree = new Tree(line, other, isInverted, Integer.MAX_VALUE);
        if (tree.differs >= 0) {
            throw new NoSuchElementException();
        }
        return tree.leaves;
    }

    public int witness(int line, int other, boolean isInverted) {
        line(line);
        line(other);
        shut();
        Tree tree = new Tree(line, other, isInverted, Integer.MAX_VALUE);
        if (tree.differs < 0) {
            throw new NoSuchElementException();
        }
        return tree.differs;
    }

    public int sweep(int budget) {
        range(budget, 1, 20000);
        shut();
        for (int line = 0; line < lines(); line++) {
            for (int other = 0; other < line && !mergedInto.containsKey(line); other++) {
                if (mergedInto.containsKey(other)) {
                    continue;
                }
                boolean straight = alike(line, other, 0);
                if (!straight && !alike(line, other, 1)) {
                    continue;
                }
                Tree tree = new Tree(line, other, !straight, budget);
                if (tree.gaveUp) {
                    continue;
                }
                if (tree.differs < 0) {
                    mergedInto.put(line, 2 * other + (straight ? 0 : 1));
                    mergeSizes.put(line, tree.leaves);
                } else if (patternList.size() < 64) {
                    patternList.add(tree.differs);
                }
            }
        }
        return mergedInto.size();
    }

    public int merged(int line) {
        line(line);
        return mergedInto.getOrDefault(line, 2 * line);
    }

    public long mergeProofs() {
        return mergeSizes.values().stream().mapToLong(s -> s).sum();
    }

    public int patterns() {
        return patternList.size();
    }

    public int order(int source, int place) {
        shut();
        range(source, 0, sources().size() - 1);
        range(place, 0, sources().size() - 1);
        int before = order.indexOf(source);
        order.remove(before);
        order.add(place, source);
        return before;
    }

    public int placeOf(int source) {
        shut();
        range(source, 0, sources().size() - 1);
        return order.indexOf(source);
    }

    public int diagram(int line, int limit) {
        line(line);
        range(limit, 1, 9999);
        shut();
        int size = sizeOf(List.of(line), order);
        return size > limit ? -1 : size;
    }

    public int allDiagrams() {
        shut();
        return sizeOf(allOutputs(), order);
    }

    public int sift() {
        shut();
        for (int source = 0; source < sources().size(); source++) {
            List<Integer> best = null;
            int least = Integer.MAX_VALUE;
            for (int place = 0; place < order.size(); place++) {
                List<Integer> tried = new ArrayList<>(order);
                tried.remove((Integer) source);
                tried.add(place, source);
                int size = sizeOf(allOutputs(), tried);
                if (size < least) {
                    least = size;
                    best = tried;
                }
            }
            order = best;
        }
        return allDiagrams();
    }

    public int cuts(int line, int most) {
        return cutsOfLine(line, most).size();
    }

    public int cutAt(int line, int most, int cut, int index) {
        List<List<Integer>> all = cutsOfLine(line, most);
        if (cut < 0 || cut >= all.size() || index < 0 || index >= all.get(cut).size()) {
            throw new NoSuchElementException();
        }
        return all.get(cut).get(index);
    }

    public int table(int line, int most, int cut) {
        List<List<Integer>> all = cutsOfLine(line, most);
        if (cut < 0 || cut >= all.size()) {
            throw new NoSuchElementException();
        }
        int sum = 0;
        for (int choice = 0; choice < 1 << all.get(cut).size(); choice++) {
            sum |= nodeValue(literals.get(line) >> 1, all.get(cut), choice) << choice;
        }
        return sum;
    }

    public int normal(int inputs, int table) {
        range(inputs, 1, 4);
        range(table, 0, (1 << (1 << inputs)) - 1);
        int least = table;
        for (List<Integer> turnedOrder : orders(inputs)) {
            for (int turned = 0; turned < 1 << inputs; turned++) {
                int sum = 0;
                for (int choice = 0; choice < 1 << inputs; choice++) {
                    int from = 0;
                    for (int k = 0; k < inputs; k++) {
                        from |= (choice >> turnedOrder.get(k) & 1) << k;
                    }
                    sum |= (table >> (from ^ turned) & 1) << choice;
                }
                least = Math.min(least, Math.min(sum, (1 << (1 << inputs)) - 1 - sum));
            }
        }
        return least;
    }

    public int coefficient(int which, int i, int j, int number) {
        range(which, 0, 1);
        range(i, 0, 3);
        range(j, 0, 3);
        range(number, -999, 999);
        int before = polynomials[which][i][j];
        polynomials[which][i][j] = number;
        return before;
    }

    public boolean areSame(int bits) {
        range(bits, 1, 6);
        for (int x = 0; x < 1 << bits; x++) {
            for (int y = 0; y < 1 << bits; y++) {
                if (word(0, bits, x, y) != word(1, bits, x, y)) {
                    return false;
                }
            }
        }
        return true;
    }

    public int word(int which, int bits, int x, int y) {
        range(which, 0, 1);
        range(bits, 1, 6);
        long modulus = 1L << bits;
        long sum = 0;
        for (int i = 0; i < 4; i++) {
            for (int j = 0; j < 4; j++) {
                long product = polynomials[which][i][j];
                for (int k = 0; k < i; k++) {
                    product = product * Math.floorMod((long) x, modulus) % modulus;
                }
                for (int k = 0; k < j; k++) {
                    product = product * Math.floorMod((long) y, modulus) % modulus;
                }
                sum += product;
            }
        }
        return (int) Math.floorMod(sum, modulus);
    }

    public int seen(int line) {
        line(line);
        shut();
        int count = 0;
        for (int choice = 0; choice < choices(); choice++) {
            int[] was = values(choice, -1, -1);
            int[] now = values(choice, line, 1 - was[line]);
            boolean isOther = false;
            for (int net = 0; net < 2; net++) {
                if (owners.get(line) == net || owners.get(line) == 2) {
                    for (int o : outputs.get(net)) {
                        isOther |= was[o] != now[o];
                    }
                    for (int c : cells()) {
                        isOther |= owners.get(c) == net && was[ones.get(c)] != now[ones.get(c)];
                    }
                }
            }
            count += isOther && keeps(constraints, choice) ? 1 : 0;
        }
        return count;
    }

    public boolean isIdle(int line) {
        return seen(line) == 0;
    }

    public int patch(int line, int one, int two, int three, int four) {
        line(line);
        line(one);
        List<Integer> over = new ArrayList<>(List.of(one));
        for (int next : new int[] {two, three, four}) {
            if (next == -1) {
                break;
            }
            line(next);
            over.add(next);
        }
        if (owners.get(line) != 1 || new HashSet<>(over).size() < over.size()) {
            throw new IllegalArgumentException();
        }
        for (int o : over) {
            if (owners.get(o) == 0 || cone(o).contains(line)) {
                throw new IllegalArgumentException();
            }
        }
        shut();
        Map<Integer, Integer> wanted = new HashMap<>();
        for (int choice = 0; choice < choices(); choice++) {
            int[] was = values(choice, -1, -1);
            if (!keeps(constraints, choice) || !twinsAgree(was, false)) {
                continue;
            }
            boolean zero = netsAgree(values(choice, line, 0));
            boolean one1 = netsAgree(values(choice, line, 1));
            if (!zero && !one1) {
                throw new NoSuchElementException();
            }
            if (zero != one1) {
                int key = 0;
                for (int k = 0; k < over.size(); k++) {
                    key |= was[over.get(k)] << k;
                }
                Integer before = wanted.put(key, one1 ? 1 : 0);
                if (before != null && before != (one1 ? 1 : 0)) {
                    throw new NoSuchElementException();
                }
            }
        }
        int sum = 0;
        for (int key : wanted.keySet()) {
            sum |= wanted.get(key) << key;
        }
        return sum;
    }

    public boolean correspond(int cell, int other, boolean isByName) {
        line(cell);
        line(other);
        shut();
        isCell(cell);
        isCell(other);
        if (isByName) {
            return names.get(cell).equals(names.get(other));
        }
        return classes().stream().anyMatch(c -> c.contains(cell) && c.contains(other));
    }

    public int cellClasses() {
        shut();
        return classes().size();
    }

    public int reached() {
        shut();
        Set<List<Integer>> met = new LinkedHashSet<>();
        List<List<Integer>> todo = new ArrayList<>(List.of(firstState()));
        while (!todo.isEmpty()) {
            List<Integer> state = todo.remove(0);
            if (met.add(state)) {
                for (int input : keptInputs()) {
                    todo.add(follow(state, input));
                }
            }
        }
        return met.size();
    }

    public int difference() {
        shut();
        return leastTrace().size() - 1;
    }

    public int trace(int step) {
        shut();
        List<Integer> trace = leastTrace();
        if (step < 0 || step >= trace.size()) {
            throw new NoSuchElementException();
        }
        return trace.get(step);
    }

    public boolean isInductive(int k) {
        range(k, 0, 20);
        shut();
        int first = difference();
        if (first >= 0 && first < k) {
            return false;
        }
        Set<List<Integer>> now = new HashSet<>();
        for (int choice = 0; choice < choices(); choice++) {
            now.add(stateOf(values(choice, -1, -1)));
        }
        for (int step = 0; step < k; step++) {
            Set<List<Integer>> next = new HashSet<>();
            for (List<Integer> state : now) {
                for (int input : keptInputs()) {
                    if (outputsAlike(state, input)) {
                        next.add(follow(state, input));
                    }
                }
            }
            now = next;
        }
        for (List<Integer> state : now) {
            for (int input : keptInputs()) {
                if (!outputsAlike(state, input)) {
                    return false;
                }
            }
        }
        return true;
    }

    public boolean isInvariant(int line) {
        line(line);
        shut();
        if (!isOneAtAll(line, firstState())) {
            return false;
        }
        Map<List<Integer>, Boolean> known = new HashMap<>();
        for (int choice = 0; choice < choices(); choice++) {
            int[] v = values(choice, -1, -1);
            if (keeps(constraints, choice) && v[line] == 1) {
                List<Integer> next = new ArrayList<>();
                for (int c : cells()) {
                    next.add(v[ones.get(c)]);
                }
                if (!known.computeIfAbsent(next, n -> isOneAtAll(line, n))) {
                    return false;
                }
            }
        }
        return true;
    }

    public int run(int net, int steps, int inputs) {
        range(net, 0, 1);
        range(steps, 0, 30);
        range(inputs, 0, (1 << inputs().size()) - 1);
        if (closed && !keptInputs().contains(inputs)) {
            throw new IllegalArgumentException();
        }
        shut();
        List<Integer> state = firstState();
        for (int step = 0; step < steps; step++) {
            state = follow(state, inputs);
        }
        int[] v = values(choiceOf(state, inputs), -1, -1);
        int sum = 0;
        for (int k = 0; k < outputs.get(net).size(); k++) {
            sum |= v[outputs.get(net).get(k)] << k;
        }
        return sum;
    }

    public int lines() {
        return kinds.size();
    }

    public float mergedShare() {
        if (lines() == 0) {
            throw new ArithmeticException();
        }
        return (float) mergedInto.size() / (float) lines();
    }

    public double meanSeen() {
        shut();
        long sum = 0;
        for (int line = 0; line < lines(); line++) {
            sum += seen(line);
        }
        return (double) sum / (double) lines();
    }

    public boolean isSound() {
        return true;
    }

    private int add(char kind, int owner, int one, int two, int first, int name) {
        kinds.add(kind);
        owners.add(owner);
        ones.add(one);
        twos.add(two);
        firsts.add(first);
        names.add(name);
        return kinds.size() - 1;
    }

    private void open() {
        if (closed) {
            throw new UnsupportedOperationException();
        }
    }

    private void shut() {
        if (!closed) {
            throw new UnsupportedOperationException();
        }
    }

    private static void range(int number, int least, int greatest) {
        if (number < least || number > greatest) {
            throw new IllegalArgumentException();
        }
    }

    private void line(int line) {
        if (line < 0 || line >= lines()) {
            throw new IndexOutOfBoundsException();
        }
    }

    private void ofNet(int net, int line) {
        if (owners.get(line) != net && owners.get(line) != 2) {
            throw new UnsupportedOperationException();
        }
    }

    private void isCell(int line) {
        if (kinds.get(line) != 'c') {
            throw new UnsupportedOperationException();
        }
    }

    private List<Integer> ofKind(char kind) {
        List<Integer> all = new ArrayList<>();
        for (int l = 0; l < lines(); l++) {
            if (kinds.get(l) == kind) {
                all.add(l);
            }
        }
        return all;
    }

    private List<Integer> inputs() {
        return ofKind('i');
    }

    private List<Integer> cells() {
        return ofKind('c');
    }

    private List<Integer> sources() {
        List<Integer> all = inputs();
        all.addAll(cells());
        return all;
    }

    private int choices() {
        return 1 << sources().size();
    }

    private List<Integer> allOutputs() {
        List<Integer> all = new ArrayList<>(outputs.get(0));
        all.addAll(outputs.get(1));
        return all;
    }

    private boolean isGate(int line) {
        return kinds.get(line) != 'i' && kinds.get(line) != 'c';
    }

    private Set<Integer> cone(int line) {
        Set<Integer> all = new TreeSet<>(Set.of(line));
        if (isGate(line)) {
            all.addAll(cone(ones.get(line)));
            if (twos.get(line) >= 0) {
                all.addAll(cone(twos.get(line)));
            }
        }
        return all;
    }

    /** Values of all lines at a choice, one of them perhaps forced. */
    private int[] values(int choice, int forced, int to) {
        int[] v = new int[lines()];
        List<Integer> sources = sources();
        for (int l = 0; l < v.length; l++) {
            v[l] = isGate(l) ? truth(kinds.get(l), v[ones.get(l)], v[Math.max(0, twos.get(l))])
                    : choice >> sources.indexOf(l) & 1;
            if (l == forced) {
                v[l] = to;
            }
        }
        return v;
    }

    private static int truth(char kind, int a, int b) {
        return switch (kind) {
            case 'a' -> a * b;
            case 'o' -> a + b > 0 ? 1 : 0;
            case 'x' -> a != b ? 1 : 0;
            case 'n' -> 1 - a * b;
            case 'r' -> a + b > 0 ? 0 : 1;
            case 'b' -> a;
            default -> 1 - a;
        };
    }

    private boolean keeps(List<Integer> all, int choice) {
        int[] v = values(choice, -1, -1);
        return all.stream().allMatch(l -> v[l] == 1);
    }

    private boolean alike(int line, int other, int turned) {
        for (int choice : patternList) {
            int[] v = values(choice, -1, -1);
            if (v[line] != (v[other] ^ turned)) {
                return false;
            }
        }
        return true;
    }

    /** The tree of decisions; values are 0, 1 or 2 for unknown. */
    private final class Tree {
        final int line;
        final int other;
        final int turned;
        final int budget;
        final List<Integer> sources = sources();
        int leaves;
        int differs = -1;
        boolean gaveUp;

        Tree(int line, int other, boolean isInverted, int budget) {
            this.line = line;
            this.other = other;
            this.turned = isInverted ? 1 : 0;
            this.budget = budget;
            grow(0, 0);
        }

        private void grow(int decided, int choice) {
            if (gaveUp || differs >= 0) {
                return;
            }
            int[] v = new int[lines()];
            for (int l = 0; l < v.length; l++) {
                if (isGate(l)) {
                    v[l] = ternary(kinds.get(l), v[ones.get(l)], v[Math.max(0, twos.get(l))]);
                } else {
                    int s = sources.indexOf(l);
                    v[l] = s < decided ? choice >> s & 1 : 2;
                }
            }
            boolean known = v[line] != 2 && v[other] != 2;
            boolean same = known && v[line] == (v[other] ^ turned);
            if (same || constraints.stream().anyMatch(c -> v[c] == 0)) {
                leaves++;
                gaveUp = leaves > budget;
            } else if (known && decided == sources.size()) {
                differs = choice;
            } else {
                grow(decided + 1, choice);
                grow(decided + 1, choice | 1 << decided);
            }
        }

        private int ternary(char kind, int a, int b) {
            Set<Integer> all = new HashSet<>();
            for (int i : a == 2 ? new int[] {0, 1} : new int[] {a}) {
                for (int j : b == 2 ? new int[] {0, 1} : new int[] {b}) {
                    all.add(truth(kind, i, j));
                }
            }
            return all.size() == 2 ? 2 : all.iterator().next();
        }
    }

    private int makeLiteral(int line) {
        if (!isGate(line)) {
            return 2 * (1 + sources().indexOf(line));
        }
        int a = literals.get(ones.get(line));
        int b = twos.get(line) < 0 ? 0 : literals.get(twos.get(line));
        switch (kinds.get(line)) {
            case 'a':
                return and(a, b);
            case 'n':
                return and(a, b) ^ 1;
            case 'o':
                return and(a ^ 1, b ^ 1) ^ 1;
            case 'r':
                return and(a ^ 1, b ^ 1);
            case 'x':
                int first = and(a, b) ^ 1;
                int second = and(a ^ 1, b ^ 1) ^ 1;
                return and(first, second);
            case 'b':
                return a;
            default:
                return a ^ 1;
        }
    }

    private int and(int one, int other) {
        int p = Math.min(one, other);
        int q = Math.max(one, other);
        if (p == 0 || p == (q ^ 1)) {
            return 0;
        }
        if (p == 1 || p == q) {
            return q;
        }
        for (int m : new int[] {q, p}) {
            int t = m == q ? p : q;
            int[] pins = nodes.get(m >> 1);
            if (m % 2 == 0 && pins.length == 2) {
                if (t == (pins[0] ^ 1) || t == (pins[1] ^ 1)) {
                    return 0;
                }
                if (t == pins[0] || t == pins[1]) {
                    return m;
                }
            }
        }
        for (int m : new int[] {q, p}) {
            int t = m == q ? p : q;
            int[] pins = nodes.get(m >> 1);
            if (m % 2 == 1 && pins.length == 2) {
                if (t == (pins[0] ^ 1) || t == (pins[1] ^ 1)) {
                    return t;
                }
                if (t == pins[0]) {
                    return and(t, pins[1] ^ 1);
                }
                if (t == pins[1]) {
                    return and(t, pins[0] ^ 1);
                }
            }
        }
        for (int node = 0; node < nodes.size(); node++) {
            if (Arrays.equals(nodes.get(node), new int[] {p, q})) {
                return 2 * node;
            }
        }
        nodes.add(new int[] {p, q});
        return 2 * (nodes.size() - 1);
    }

    private int sizeOf(List<Integer> roots, List<Integer> by) {
        int n = by.size();
        List<String> tables = new ArrayList<>();
        Map<Integer, int[]> all = new HashMap<>();
        for (int choice = 0; choice < 1 << n; choice++) {
            all.put(choice, values(choice, -1, -1));
        }
        for (int root : roots) {
            StringBuilder table = new StringBuilder();
            for (int row = 0; row < 1 << n; row++) {
                int choice = 0;
                for (int place = 0; place < n; place++) {
                    choice |= (row >> (n - 1 - place) & 1) << by.get(place);
                }
                table.append(all.get(choice)[root]);
            }
            tables.add(table.toString());
        }
        Set<String> found = new HashSet<>();
        for (String table : tables) {
            gatherNodes(table, found);
        }
        return found.size();
    }

    private static void gatherNodes(String table, Set<String> found) {
        if (table.length() == 1) {
            return;
        }
        String low = table.substring(0, table.length() / 2);
        String high = table.substring(table.length() / 2);
        if (low.equals(high)) {
            gatherNodes(low, found);
        } else if (found.add(table)) {
            gatherNodes(low, found);
            gatherNodes(high, found);
        }
    }

    private List<List<Integer>> cutsOfLine(int line, int most) {
        line(line);
        range(most, 2, 4);
        shut();
        if (literals.get(line) < 2) {
            throw new UnsupportedOperationException();
        }
        List<List<Integer>> all = new ArrayList<>();
        for (Set<Integer> cut : cutsOfNode(literals.get(line) >> 1, most, new HashMap<>())) {
            all.add(new ArrayList<>(cut));
        }
        all.sort((a, b) -> {
            if (a.size() != b.size()) {
                return a.size() - b.size();
            }
            for (int k = 0; k < a.size(); k++) {
                if (!a.get(k).equals(b.get(k))) {
                    return a.get(k) - b.get(k);
                }
            }
            return 0;
        });
        return all;
    }

    private Set<Set<Integer>> cutsOfNode(int node, int most, Map<Integer, Set<Set<Integer>>> known) {
        if (known.containsKey(node)) {
            return known.get(node);
        }
        Set<Set<Integer>> all = new HashSet<>();
        all.add(new TreeSet<>(Set.of(node)));
        if (nodes.get(node).length == 2) {
            for (Set<Integer> a : cutsOfNode(nodes.get(node)[0] >> 1, most, known)) {
                for (Set<Integer> b : cutsOfNode(nodes.get(node)[1] >> 1, most, known)) {
                    Set<Integer> union = new TreeSet<>(a);
                    union.addAll(b);
                    if (union.size() <= most) {
                        all.add(union);
                    }
                }
            }
        }
        Set<Set<Integer>> left = new HashSet<>(all);
        left.removeIf(c -> all.stream().anyMatch(d -> !d.equals(c) && c.containsAll(d)));
        known.put(node, left);
        return left;
    }

    private int nodeValue(int node, List<Integer> cut, int choice) {
        if (cut.contains(node)) {
            return choice >> cut.indexOf(node) & 1;
        }
        int value = 1;
        for (int pin : nodes.get(node)) {
            value &= nodeValue(pin >> 1, cut, choice) ^ (pin & 1);
        }
        return value;
    }

    private static List<List<Integer>> orders(int count) {
        List<List<Integer>> all = new ArrayList<>();
        if (count == 0) {
            all.add(new ArrayList<>());
            return all;
        }
        for (List<Integer> less : orders(count - 1)) {
            for (int place = 0; place <= less.size(); place++) {
                List<Integer> more = new ArrayList<>(less);
                more.add(place, count - 1);
                all.add(more);
            }
        }
        return all;
    }

    private boolean twinsAgree(int[] v, boolean isData) {
        for (int a : cells()) {
            for (int b : cells()) {
                if (owners.get(a) == 0 && owners.get(b) == 1 && names.get(a).equals(names.get(b))) {
                    if (isData ? v[ones.get(a)] != v[ones.get(b)] : v[a] != v[b]) {
                        return false;
                    }
                }
            }
        }
        return true;
    }

    private boolean netsAgree(int[] v) {
        for (int k = 0; k < outputs.get(0).size(); k++) {
            if (v[outputs.get(0).get(k)] != v[outputs.get(1).get(k)]) {
                return false;
            }
        }
        return twinsAgree(v, true);
    }

    private List<List<Integer>> classes() {
        List<List<Integer>> all = new ArrayList<>();
        for (int first = 0; first < 2; first++) {
            List<Integer> some = new ArrayList<>();
            for (int c : cells()) {
                if (firsts.get(c) == first) {
                    some.add(c);
                }
            }
            if (!some.isEmpty()) {
                all.add(some);
            }
        }
        boolean isMoved = true;
        while (isMoved) {
            isMoved = false;
            List<int[]> asked = new ArrayList<>();
            for (int choice = 0; choice < choices(); choice++) {
                int[] v = values(choice, -1, -1);
                if (keeps(constraints, choice)
                        && all.stream().allMatch(cl -> cl.stream().allMatch(c -> v[c] == v[cl.get(0)]))) {
                    asked.add(v);
                }
            }
            List<List<Integer>> next = new ArrayList<>();
            for (List<Integer> some : all) {
                List<Integer> same = new ArrayList<>();
                List<Integer> other = new ArrayList<>();
                for (int c : some) {
                    boolean isSame = asked.stream().allMatch(v -> v[ones.get(c)] == v[ones.get(some.get(0))]);
                    (isSame ? same : other).add(c);
                }
                next.add(same);
                if (!other.isEmpty()) {
                    next.add(other);
                    isMoved = true;
                }
            }
            all = next;
        }
        return all;
    }

    private List<Integer> firstState() {
        List<Integer> state = new ArrayList<>();
        for (int c : cells()) {
            state.add(firsts.get(c));
        }
        return state;
    }

    private List<Integer> stateOf(int[] v) {
        List<Integer> state = new ArrayList<>();
        for (int c : cells()) {
            state.add(v[c]);
        }
        return state;
    }

    private int choiceOf(List<Integer> state, int input) {
        int choice = input;
        for (int k = 0; k < state.size(); k++) {
            choice |= state.get(k) << (inputs().size() + k);
        }
        return choice;
    }

    private List<Integer> follow(List<Integer> state, int input) {
        int[] v = values(choiceOf(state, input), -1, -1);
        List<Integer> next = new ArrayList<>();
        for (int c : cells()) {
            next.add(v[ones.get(c)]);
        }
        return next;
    }

    private List<Integer> keptInputs() {
        List<Integer> all = new ArrayList<>();
        for (int input = 0; input < 1 << inputs().size(); input++) {
            if (keeps(constraints, input)) {
                all.add(input);
            }
        }
        return all;
    }

    private boolean outputsAlike(List<Integer> state, int input) {
        int[] v = values(choiceOf(state, input), -1, -1);
        for (int k = 0; k < outputs.get(0).size(); k++) {
            if (v[outputs.get(0).get(k)] != v[outputs.get(1).get(k)]) {
                return false;
            }
        }
        return true;
    }

    private boolean isOneAtAll(int line, List<Integer> state) {
        return keptInputs().stream().allMatch(i -> values(choiceOf(state, i), -1, -1)[line] == 1);
    }

    /** The least inputs to a difference, of all ways of the fewest steps; empty if there is none. */
    private List<Integer> leastTrace() {
        Map<List<Integer>, List<Integer>> layer = new HashMap<>();
        layer.put(firstState(), List.of());
        Set<List<Integer>> met = new HashSet<>(layer.keySet());
        while (!layer.isEmpty()) {
            List<Integer> best = null;
            Map<List<Integer>, List<Integer>> next = new HashMap<>();
            for (List<Integer> state : layer.keySet()) {
                for (int input : keptInputs()) {
                    List<Integer> way = new ArrayList<>(layer.get(state));
                    way.add(input);
                    if (!outputsAlike(state, input) && (best == null || isLess(way, best))) {
                        best = way;
                    }
                    List<Integer> after = follow(state, input);
                    if (!met.contains(after) && (!next.containsKey(after) || isLess(way, next.get(after)))) {
                        next.put(after, way);
                    }
                }
            }
            if (best != null) {
                return best;
            }
            met.addAll(next.keySet());
            layer = next;
        }
        return Collections.emptyList();
    }

    private static boolean isLess(List<Integer> one, List<Integer> other) {
        for (int k = 0; k < one.size(); k++) {
            if (!one.get(k).equals(other.get(k))) {
                return one.get(k) < other.get(k);
            }
        }
        return false;
    }
}
