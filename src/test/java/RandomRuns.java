import java.util.ArrayList;
import java.util.HashMap;
import java.util.List;
import java.util.Map;
import java.util.Random;

/**
 * Runs of random calls, the same ones on Miterhouse and on PlainHouse: each answer and each exception
 * must be the same. Arguments: the first seed and the number of runs.
 */
public final class RandomRuns {
    private final Random random;
    private final TwoHouses both = new TwoHouses();
    private final Miterhouse house = both.house;
    private final List<String> history = both.history;
    private final List<List<Integer>> ofNet = List.of(new ArrayList<>(), new ArrayList<>());
    private final List<Integer> cells = new ArrayList<>();
    private final Map<Integer, Integer> twins = new HashMap<>();
    private int sources;
    private int inputs;

    private RandomRuns(long seed) {
        random = new Random(seed);
    }

    public static void main(String[] args) {
        long seed = args.length > 0 ? Long.parseLong(args[0]) : 1;
        int runs = args.length > 1 ? Integer.parseInt(args[1]) : 400;
        for (long s = seed; s < seed + runs; s++) {
            RandomRuns run = new RandomRuns(s);
            run.go();
            if (run.both.isWrong()) {
                run.both.tell("seed " + s);
                System.exit(1);
            }
        }
        System.out.println(runs + " random runs answer as the plain house does");
    }

    /** The number that both answer, -1 for an exception. */
    private int call(String name, Object... args) {
        return both.call(name, args);
    }

    private void go() {
        if (random.nextInt(10) == 0) {
            goCounting();
            return;
        }
        if (random.nextInt(20) == 0) {
            goFull();
            return;
        }
        if (random.nextInt(80) == 0) {
            goProducts();
            return;
        }
        int size = random.nextInt(12);
        int mostInputs = size == 0 ? 6 : size < 3 ? 5 : 3;
        int mostCells = size == 0 ? 3 : size < 4 ? 0 : 2;
        boolean isCellFirst = random.nextInt(3) == 0;
        if (isCellFirst) {
            addCells(mostCells);
        }
        for (int i = random.nextInt(mostInputs + 1); i >= 0; i--) {
            call("input");
        }
        if (!isCellFirst) {
            addCells(mostCells);
        }
        if (random.nextInt(3) == 0) {
            call("input");
        }
        inputs = (int) java.util.stream.IntStream.range(0, house.lines()).filter(l -> !cells.contains(l)).count();
        sources = house.lines();
        for (int l = 0; l < sources; l++) {
            if (!cells.contains(l)) {
                ofNet.get(0).add(l);
                ofNet.get(1).add(l);
                twins.put(l, l);
            }
        }
        int gates = 1 + random.nextInt(random.nextInt(5) == 0 ? 36 : 14);
        for (int g = 0; g < gates; g++) {
            addPair();
            if (random.nextInt(12) == 0) {
                wildCall();
            }
        }
        tellData();
        tellOutputs();
        if (random.nextInt(6) == 0) {
            wildCall();
        }
        call("close");
        int calls = 30 + random.nextInt(60);
        for (int c = 0; c < calls && !both.isWrong(); c++) {
            ask();
        }
        call("isSound");
    }

    /** Two counters that come apart late, if at all, so that traces are long. */
    private void goCounting() {
        inputs = 1 + random.nextInt(2);
        for (int i = 0; i < inputs; i++) {
            call("input");
        }
        int bits = 2 + random.nextInt(3);
        for (int net = 0; net < 2; net++) {
            int[] cell = new int[bits];
            for (int k = 0; k < bits; k++) {
                cell[k] = call("cell", net, random.nextInt(9) == 0 ? 1 : 0, k);
                cells.add(cell[k]);
            }
            int carry = 0;
            for (int k = 0; k < bits; k++) {
                char kind = random.nextInt(12) == 0 ? 'o' : 'x';
                call("data", cell[k], call("gate", net, kind, cell[k], carry));
                carry = call("gate", net, 'a', cell[k], carry);
                twins.put(carry, carry + 1);
            }
            call("output", net, carry);
            if (random.nextBoolean()) {
                call("gate", net, 'x', carry, inputs - 1);
            }
        }
        for (int l = 0; l < house.lines(); l++) {
            ofNet.get(l % 2).add(l);
        }
        sources = inputs + 2 * bits;
        if (call("close") < 0) {
            return;
        }
        for (int c = 0; c < 60 && !both.isWrong(); c++) {
            if (random.nextInt(3) == 0) {
                call("difference");
                call("trace", random.nextInt(20));
                call("isInductive", random.nextInt(21));
                call("reached");
            } else {
                ask();
            }
        }
    }

    /** All the lines that there can be, and as many sources, gates mostly standing on late lines. */
    private void goFull() {
        inputs = 1 + random.nextInt(6);
        for (int i = 0; i < inputs; i++) {
            call("input");
            ofNet.get(0).add(i);
            ofNet.get(1).add(i);
        }
        int most = random.nextInt(3) == 0 ? 0 : random.nextInt(5);
        for (int k = 0; k < 2 * most; k++) {
            addCell(k % 2, call("cell", k % 2, random.nextInt(2), k / 2));
        }
        sources = inputs + 2 * most;
        String kinds = random.nextBoolean() ? "aoxnr" : "aoaoxbv";
        while (house.lines() < 80) {
            List<Integer> own = ofNet.get(random.nextInt(random.nextInt(4) == 0 ? 1 : 2));
            int net = own == ofNet.get(0) ? 0 : 1;
            int one = own.get(Math.max(0, own.size() - 1 - random.nextInt(8)));
            newGate(net, kinds.charAt(random.nextInt(kinds.length())), one, any(own));
        }
        for (int cell : cells) {
            call("data", cell, any(ofNet.get(ofNet.get(0).contains(cell) ? 0 : 1)));
        }
        for (int k = 0; k < 8; k++) {
            List<Integer> own = ofNet.get(k % 2);
            call("output", k % 2, own.get(own.size() - 1 - k / 2));
        }
        call("close");
        for (int c = 0; c < 25; c++) {
            askFull();
        }
        if (sources < 5) {
            call("sweep", someBudget());
            call("mergeProofs");
            call("sift");
        }
        call("isSound");
    }

    private void askFull() {
        int line = someLine();
        switch (random.nextInt(16)) {
            case 0 -> call("diagram", line, 9999);
            case 1 -> call("allDiagrams");
            case 2 -> call("order", random.nextInt(sources), random.nextInt(sources));
            case 3 -> call("proof", line, someLine(), random.nextBoolean());
            case 4 -> call("witness", line, someLine(), random.nextBoolean());
            case 5 -> call("prove", line, someLine(), random.nextBoolean(), 1 + random.nextInt(1 << random.nextInt(14)));
            case 6 -> call("seen", line);
            case 7 -> call("literal", line);
            case 8 -> call("pin", random.nextInt(240), random.nextBoolean());
            case 9 -> call(random.nextBoolean() ? "reached" : "cellClasses");
            case 10 -> call("trace", random.nextInt(3));
            case 11 -> call("constrain", random.nextInt(inputs));
            case 12 -> call("candidates", line);
            case 13 -> call("pattern", someChoice());
            default -> askCuts(line);
        }
    }

    /** In each net the sum of products of sources in pairs, whose diagrams are large in most orders. */
    private void goProducts() {
        inputs = 6;
        sources = 14;
        for (int i = 0; i < 6; i++) {
            call("input");
        }
        for (int k = 0; k < 8; k++) {
            call("data", call("cell", k % 2, 0, k), k % 6);
        }
        for (int net = 0; net < 2; net++) {
            List<Integer> own = new ArrayList<>(List.of(0, 1, 2, 3, 4, 5, 6 + net, 8 + net, 10 + net, 12 + net));
            java.util.Collections.shuffle(own, random);
            int sum = call("gate", net, 'a', own.get(0), own.get(5));
            for (int k = 1; k < 5; k++) {
                sum = call("gate", net, random.nextInt(4) == 0 ? 'o' : 'x', sum,
                        call("gate", net, 'a', own.get(k), own.get(5 + k)));
            }
            call("output", net, sum);
        }
        call("close");
        for (int c = 0; c < 4; c++) {
            for (int moves = 0; moves < 10; moves++) {
                call("order", random.nextInt(14), random.nextInt(14));
            }
            call("allDiagrams");
            call("diagram", house.lines() - 1, 9999);
        }
    }

    private void addCells(int most) {
        for (int name = 0; name < most; name++) {
            int first = random.nextInt(2);
            int kind = random.nextInt(8);
            boolean isOtherFirst = random.nextBoolean();
            int other = kind != 7 && isOtherFirst ? call("cell", 1, kind == 5 ? 1 - first : first, name) : -1;
            int one = kind == 6 ? -1 : call("cell", 0, first, name);
            if (kind != 7 && !isOtherFirst) {
                other = call("cell", 1, kind == 5 ? 1 - first : first, kind == 4 ? 9 - name : name);
            }
            addCell(0, one);
            addCell(1, other);
            if (one >= 0 && other >= 0) {
                twins.put(one, other);
            }
        }
    }

    private void addCell(int net, int line) {
        if (line >= 0) {
            cells.add(line);
            ofNet.get(net).add(line);
        }
    }

    private int any(List<Integer> from) {
        return from.get(random.nextInt(from.size()));
    }

    private int newGate(int net, char kind, int one, int two) {
        int line = call("gate", net, kind, one, two);
        if (line >= 0 && !ofNet.get(net).contains(line)) {
            ofNet.get(net).add(line);
        }
        return line;
    }

    /** A gate of the net 0, and mostly one that does the same, made in another way, in the net 1. */
    private void addPair() {
        char kind = "aoxnrbv".charAt(random.nextInt(7));
        if (ofNet.get(0).isEmpty() || ofNet.get(1).isEmpty()) {
            return;
        }
        int one = any(ofNet.get(0));
        int two = any(ofNet.get(0));
        int line = newGate(0, kind, one, two);
        Integer p = twins.get(one);
        Integer q = twins.get(two);
        if (p == null || q == null || random.nextInt(10) == 0) {
            newGate(1, "aoxnrbv".charAt(random.nextInt(7)), any(ofNet.get(1)), any(ofNet.get(1)));
            return;
        }
        if (random.nextBoolean()) {
            int t = p;
            p = q;
            q = t;
            if (kind == 'b' || kind == 'v') {
                q = p = twins.get(one);
            }
        }
        int twin = switch (random.nextInt(9) == 0 ? 'z' : kind) {
            case 'a' -> random.nextBoolean() ? newGate(1, 'a', p, q) : newGate(1, 'v', newGate(1, 'n', p, q), -1);
            case 'o' -> random.nextBoolean() ? newGate(1, 'o', p, q)
                    : newGate(1, 'n', newGate(1, 'v', p, 0), newGate(1, 'v', q, 0));
            case 'x' -> random.nextBoolean() ? newGate(1, 'x', p, q)
                    : newGate(1, 'a', newGate(1, 'o', p, q), newGate(1, 'n', p, q));
            case 'n' -> newGate(1, 'v', newGate(1, 'a', p, q), 0);
            case 'r' -> newGate(1, 'r', p, q);
            case 'b' -> random.nextBoolean() ? newGate(1, 'b', p, 0) : p;
            case 'v' -> newGate(1, 'v', p, 99);
            default -> newGate(1, "aoxnrbv".charAt(random.nextInt(7)), p, q);
        };
        if (line >= 0 && twin >= 0) {
            twins.put(line, twin);
        }
    }

    private void tellData() {
        for (int cell : cells) {
            int net = ofNet.get(0).contains(cell) ? 0 : 1;
            int twin = -1;
            if (net == 0) {
                int line = any(ofNet.get(0));
                call("data", cell, line);
                twin = twins.getOrDefault(cell, -1);
                if (twin >= 0 && twins.containsKey(line) && random.nextInt(6) > 0) {
                    call("data", twin, twins.get(line));
                }
            } else if (!twins.containsValue(cell) || random.nextInt(5) == 0) {
                call("data", cell, any(ofNet.get(1)));
            }
        }
        for (int cell : cells) {
            if (random.nextInt(40) == 0) {
                call("data", cell, any(ofNet.get(random.nextInt(2))));
            }
        }
        for (int cell : cells) {
            if (!ofNet.get(0).contains(cell)) {
                boolean told = history.stream().anyMatch(h -> h.startsWith("data[" + cell + ","));
                if (!told && random.nextInt(30) > 0) {
                    call("data", cell, any(ofNet.get(1)));
                }
            }
        }
    }

    private void tellOutputs() {
        int count = 1 + random.nextInt(4);
        for (int k = 0; k < count; k++) {
            if (ofNet.get(0).isEmpty() || ofNet.get(1).isEmpty()) {
                return;
            }
            int line = random.nextInt(3) == 0 ? any(ofNet.get(0)) : ofNet.get(0).get(ofNet.get(0).size() - 1);
            call("output", 0, line);
            call("output", 1, twins.containsKey(line) && random.nextInt(8) > 0 ? twins.get(line) : any(ofNet.get(1)));
        }
        if (random.nextInt(40) == 0) {
            call("output", random.nextInt(2), any(ofNet.get(0)));
        }
    }

    private int someLine() {
        return random.nextInt(12) == 0 ? random.nextInt(house.lines() + 4) - 2 : random.nextInt(Math.max(1, house.lines()));
    }

    private int someChoice() {
        return random.nextInt(15) == 0 ? random.nextInt((1 << sources) + 2) - 1 : random.nextInt(1 << sources);
    }

    private int someOther(int line) {
        if (random.nextInt(3) > 0 && twins.containsKey(line)) {
            return twins.get(line);
        }
        return someLine();
    }

    private int someBudget() {
        int kind = random.nextInt(12);
        return kind == 0 ? random.nextInt(3) - 1 : kind == 1 ? 19999 + random.nextInt(3)
                : 1 + random.nextInt(kind < 8 ? 12 : 400);
    }

    /** Any call at any time, with arguments that need not fit. */
    private void wildCall() {
        List<String> names = TwoHouses.names();
        names.remove("close");
        String name = names.get(random.nextInt(names.size()));
        Class<?>[] kinds = TwoHouses.kindsOf(name);
        Object[] args = new Object[kinds.length];
        for (int k = 0; k < kinds.length; k++) {
            args[k] = kinds[k] == boolean.class ? (Object) random.nextBoolean()
                    : kinds[k] == char.class ? (Object) "aoxnrbvq".charAt(random.nextInt(8))
                    : (Object) (random.nextInt(8) == 0 ? random.nextInt() : random.nextInt(7) - 1);
        }
        boolean isBuilding = List.of("input", "cell", "gate", "data", "output").contains(name);
        if (!isBuilding) {
            call(name, args);
        }
    }

    private void ask() {
        int line = someLine();
        switch (random.nextInt(42)) {
            case 0 -> call("value", line, someChoice());
            case 1 -> call("literal", line);
            case 2 -> call("ands");
            case 3 -> call("pin", random.nextInt(40) - 1, random.nextBoolean());
            case 4 -> call("pattern", someChoice());
            case 5 -> call("signature", line);
            case 6 -> call("candidates", line);
            case 7, 8 -> call("prove", line, someOther(line), random.nextInt(4) == 0, someBudget());
            case 9 -> call("proof", line, someOther(line), random.nextInt(4) == 0);
            case 10 -> call("witness", line, someOther(line), random.nextInt(4) == 0);
            case 11 -> askSweep();
            case 12 -> call("merged", line);
            case 13 -> call("mergeProofs");
            case 14 -> call("patterns");
            case 15 -> call("order", random.nextInt(sources + 2) - 1, random.nextInt(sources + 2) - 1);
            case 16 -> call("placeOf", random.nextInt(sources + 2) - 1);
            case 17 -> call("diagram", line, random.nextInt(5) == 0 ? random.nextInt(10002) - 1 : 1 + random.nextInt(20));
            case 18 -> call("allDiagrams");
            case 19 -> askSift();
            case 20, 21, 22, 23 -> askCuts(line);
            case 24 -> call("normal", random.nextInt(6), random.nextInt(70000) - 2 >> random.nextInt(17));
            case 25, 26 -> call("coefficient", random.nextInt(2), random.nextInt(4), random.nextInt(4),
                    (random.nextInt(9) - 4) * (1 << random.nextInt(8)));
            case 27 -> call("areSame", random.nextInt(8));
            case 28 -> call("word", random.nextInt(2), random.nextInt(7), random.nextInt(), random.nextInt(9) - 4);
            case 29 -> call("seen", line);
            case 30 -> call("isIdle", line);
            case 31, 32 -> askPatch();
            case 33 -> call("correspond", anyCell(), anyCell(), random.nextBoolean());
            case 34 -> call("cellClasses");
            case 35 -> call("reached");
            case 36 -> call("difference");
            case 37 -> call("trace", random.nextInt(8) - 1);
            case 38 -> call("isInductive", random.nextInt(6));
            case 39 -> call("isInvariant", line);
            case 40 -> call("run", random.nextInt(2), random.nextInt(random.nextInt(4) == 0 ? 32 : 5),
                    random.nextInt((1 << inputs) + (random.nextInt(9) == 0 ? 2 : 0)));
            default -> askRare(line);
        }
    }

    private void askSweep() {
        if (sources < 8 || random.nextInt(6) == 0) {
            call("sweep", someBudget());
        }
    }

    private void askSift() {
        if (sources < 7 || random.nextInt(8) == 0) {
            call("sift");
        }
    }

    private void askCuts(int line) {
        int most = random.nextInt(9) == 0 ? random.nextInt(7) : 2 + random.nextInt(3);
        int count = call("cuts", line, most);
        int cut = count > 0 && random.nextInt(6) > 0 ? random.nextInt(count) : random.nextInt(9) - 1;
        call("cutAt", line, most, cut, random.nextInt(5) - (random.nextInt(9) == 0 ? 1 : 0));
        call("table", line, most, cut);
    }

    private void askPatch() {
        int line = random.nextInt(6) == 0 ? someLine() : any(ofNet.get(1));
        int[] over = new int[4];
        for (int k = 0; k < 4; k++) {
            over[k] = random.nextInt(12) == 0 ? someLine() : any(ofNet.get(1).subList(0, 1 + random.nextInt(ofNet.get(1).size())));
            if (k > 0 && random.nextInt(4) == 0) {
                over[k] = -1;
            }
        }
        call("patch", line, over[0], over[1], over[2], over[3]);
    }

    private int anyCell() {
        return cells.isEmpty() || random.nextInt(8) == 0 ? someLine() : any(cells);
    }

    private void askRare(int line) {
        switch (random.nextInt(7)) {
            case 0, 1 -> call("constrain", line);
            case 2 -> call("lines");
            case 3 -> call("mergedShare");
            case 4 -> call("isSound");
            case 5 -> {
                if (sources < 8) {
                    call("meanSeen");
                }
            }
            default -> wildCall();
        }
    }
}
