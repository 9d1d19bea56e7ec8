import java.util.Arrays;
import java.util.NoSuchElementException;

/**
 * A house in which two nets of gates are proved to do the same, or shown not to.
 *
 * The outer class looks at what a call brings, in the order in which the document lists its
 * exceptions; the work is done by the classes inside it. What can be told of closed nets alone
 * hangs on one object, which is not there before.
 */
public final class Miterhouse {
    private static final int MOST_LINES = 80;
    private static final int MOST_INPUTS = 6;
    private static final int MOST_CELLS = 4;
    private static final int MOST_SOURCES = 14;
    private static final int MOST_OUTPUTS = 4;
    private static final int MOST_CONSTRAINTS = 4;
    private static final int MOST_PATTERNS = 64;
    private static final int MOST_BUDGET = 20000;
    private static final int MOST_NAME = 9;
    private static final int MOST_LIMIT = 9999;
    private static final int MOST_POWER = 3;
    private static final int MOST_COEFFICIENT = 999;
    private static final int MOST_BITS = 6;
    private static final int MOST_INDUCTION = 20;
    private static final int MOST_STEPS = 30;
    /** 80 lines with one source among them make 239 nodes at most, three by an unlike. */
    private static final int MOST_NODES = 256;
    private static final int MOST_KEYS = 1 << 20;

    private static final int BOTH_NETS = 2;
    private static final char INPUT = 'i';
    private static final char CELL = 'c';

    /** The bits of a word whose number has the bit 0, 1, .. 5. */
    private static final long[] HIGH_HALVES = {
        0xAAAAAAAAAAAAAAAAL, 0xCCCCCCCCCCCCCCCCL, 0xF0F0F0F0F0F0F0F0L,
        0xFF00FF00FF00FF00L, 0xFFFF0000FFFF0000L, 0xFFFFFFFF00000000L };

    private final Nets nets;
    private final int[] coefficients;
    private Closed house;

    public Miterhouse() {
        nets = new Nets();
        coefficients = new int[32];
        house = null;
    }

    public int input() throws UnsupportedOperationException, IllegalStateException {
        mustBeOpen();
        if (nets.lines >= MOST_LINES || nets.inputs >= MOST_INPUTS) {
            throw new IllegalStateException("no room for an input");
        }
        return nets.addInput();
    }

    public int cell(int net, int first, int name)
            throws IllegalArgumentException, UnsupportedOperationException, IllegalStateException {
        mustBeWithin(net, 0, 1);
        mustBeWithin(first, 0, 1);
        mustBeWithin(name, 0, MOST_NAME);
        mustBeOpen();
        if (nets.cellNamed(net, name) >= 0) {
            throw new UnsupportedOperationException("the name is there");
        }
        if (nets.lines >= MOST_LINES || nets.cellsOf(net) >= MOST_CELLS) {
            throw new IllegalStateException("no room for a cell");
        }
        return nets.addCell(net, first, name);
    }

    public int gate(int net, char kind, int one, int two)
            throws IllegalArgumentException, IndexOutOfBoundsException, UnsupportedOperationException,
            IllegalStateException {
        mustBeWithin(net, 0, 1);
        boolean isSingle = kind == 'b' || kind == 'v';
        if (!isSingle && !isPairKind(kind)) {
            throw new IllegalArgumentException("no such kind");
        }
        int second = isSingle ? one : two;
        mustBeLine(one);
        mustBeLine(second);
        mustBeOpen();
        if (!nets.fits(net, one) || !nets.fits(net, second)) {
            throw new UnsupportedOperationException("a line of the other net");
        }
        if (nets.lines >= MOST_LINES) {
            throw new IllegalStateException("no room for a gate");
        }
        return nets.addGate(net, kind, one, second);
    }

    public int data(int cell, int line) throws IndexOutOfBoundsException, UnsupportedOperationException {
        mustBeLine(cell);
        mustBeLine(line);
        mustBeOpen();
        mustBeCell(cell);
        if (!nets.fits(nets.ownerOf(cell), line)) {
            throw new UnsupportedOperationException("a line of the other net");
        }
        return nets.changeData(cell, line);
    }

    public int output(int net, int line)
            throws IllegalArgumentException, IndexOutOfBoundsException, UnsupportedOperationException,
            IllegalStateException {
        mustBeWithin(net, 0, 1);
        mustBeLine(line);
        mustBeOpen();
        if (!nets.fits(net, line)) {
            throw new UnsupportedOperationException("a line of the other net");
        }
        if (nets.outputsOf(net) >= MOST_OUTPUTS) {
            throw new IllegalStateException("no room for an output");
        }
        return nets.addOutput(net, line);
    }

    public int close() throws UnsupportedOperationException {
        mustBeOpen();
        if (!nets.canBeClosed()) {
            throw new UnsupportedOperationException("data or outputs are missing");
        }
        nets.gatherSources();
        Closed made = new Closed(nets);
        made.fill();
        house = made;
        return nets.sourceCount();
    }

    public int constrain(int line)
            throws IndexOutOfBoundsException, UnsupportedOperationException, IllegalStateException {
        mustBeLine(line);
        Values values = mustBeClosed().values;
        if (nets.dependsOnCell(line) || values.keptWith(line) == 0) {
            throw new UnsupportedOperationException("a constraint that cannot be");
        }
        if (values.constraints >= MOST_CONSTRAINTS) {
            throw new IllegalStateException("no room for a constraint");
        }
        values.keepAlso(line);
        return values.keptChoices;
    }

    public int value(int line, int choice)
            throws IndexOutOfBoundsException, IllegalArgumentException, UnsupportedOperationException {
        mustBeLine(line);
        mustBeChoice(choice);
        return mustBeClosed().values.bitAtChoice(line, choice);
    }

    public int literal(int line) throws IndexOutOfBoundsException, UnsupportedOperationException {
        mustBeLine(line);
        return mustBeClosed().ands.literalOf(line);
    }

    public int ands() throws UnsupportedOperationException {
        return mustBeClosed().ands.andCount();
    }

    public int pin(int node, boolean isFirst) throws UnsupportedOperationException, NoSuchElementException {
        Ands ands = mustBeClosed().ands;
        if (!ands.isAnd(node)) {
            throw new NoSuchElementException("no and");
        }
        return isFirst ? ands.lesserPin(node) : ands.greaterPin(node);
    }

    public int pattern(int choice)
            throws IllegalArgumentException, UnsupportedOperationException, IllegalStateException {
        mustBeChoice(choice);
        Closed closed = mustBeClosed();
        if (!closed.values.isKept(choice)) {
            throw new UnsupportedOperationException("a constraint is not kept");
        }
        if (closed.sweeping.patternCount >= MOST_PATTERNS) {
            throw new IllegalStateException("no room for a pattern");
        }
        return closed.sweeping.addPattern(choice);
    }

    public long signature(int line) throws IndexOutOfBoundsException, UnsupportedOperationException {
        mustBeLine(line);
        return mustBeClosed().sweeping.signatureOf(line);
    }

    public int candidates(int line) throws IndexOutOfBoundsException, UnsupportedOperationException {
        mustBeLine(line);
        return mustBeClosed().sweeping.candidateCount(line);
    }

    public char prove(int line, int other, boolean isInverted, int budget)
            throws IndexOutOfBoundsException, IllegalArgumentException, UnsupportedOperationException {
        mustBeLine(line);
        mustBeLine(other);
        mustBeWithin(budget, 1, MOST_BUDGET);
        Sweeping sweeping = mustBeClosed().sweeping;
        sweeping.compare(line, other, isInverted);
        if (sweeping.leaves > budget) {
            return 'u';
        }
        return sweeping.witness < 0 ? 'e' : 'd';
    }

    public int proof(int line, int other, boolean isInverted)
            throws IndexOutOfBoundsException, UnsupportedOperationException, NoSuchElementException {
        mustBeLine(line);
        mustBeLine(other);
        Sweeping sweeping = mustBeClosed().sweeping;
        sweeping.compare(line, other, isInverted);
        if (sweeping.witness >= 0) {
            throw new NoSuchElementException("they differ");
        }
        return sweeping.leaves;
    }

    public int witness(int line, int other, boolean isInverted)
            throws IndexOutOfBoundsException, UnsupportedOperationException, NoSuchElementException {
        mustBeLine(line);
        mustBeLine(other);
        Sweeping sweeping = mustBeClosed().sweeping;
        sweeping.compare(line, other, isInverted);
        if (sweeping.witness < 0) {
            throw new NoSuchElementException("they are the same");
        }
        return sweeping.witness;
    }

    public int sweep(int budget) throws IllegalArgumentException, UnsupportedOperationException {
        mustBeWithin(budget, 1, MOST_BUDGET);
        Sweeping sweeping = mustBeClosed().sweeping;
        sweeping.sweepAll(budget);
        return sweeping.mergedCount;
    }

    public int merged(int line) throws IndexOutOfBoundsException {
        mustBeLine(line);
        return house == null ? 2 * line : house.sweeping.targetOf(line);
    }

    public long mergeProofs() {
        return house == null ? 0L : house.sweeping.proofSum;
    }

    public int patterns() {
        return house == null ? 0 : house.sweeping.patternCount;
    }

    public int order(int source, int place) throws UnsupportedOperationException, IllegalArgumentException {
        Diagrams diagrams = mustBeClosed().diagrams;
        mustBeWithin(source, 0, nets.sourceCount() - 1);
        mustBeWithin(place, 0, nets.sourceCount() - 1);
        return diagrams.moveSource(source, place);
    }

    public int placeOf(int source) throws UnsupportedOperationException, IllegalArgumentException {
        Diagrams diagrams = mustBeClosed().diagrams;
        mustBeWithin(source, 0, nets.sourceCount() - 1);
        return diagrams.whereIs(source);
    }

    public int diagram(int line, int limit)
            throws IndexOutOfBoundsException, IllegalArgumentException, UnsupportedOperationException {
        mustBeLine(line);
        mustBeWithin(limit, 1, MOST_LIMIT);
        int size = mustBeClosed().diagrams.sizeOf(line);
        return size > limit ? -1 : size;
    }

    public int allDiagrams() throws UnsupportedOperationException {
        return mustBeClosed().diagrams.sizeOfAll();
    }

    public int sift() throws UnsupportedOperationException {
        return mustBeClosed().diagrams.siftAll();
    }

    public int cuts(int line, int most)
            throws IndexOutOfBoundsException, IllegalArgumentException, UnsupportedOperationException {
        return mustHaveCuts(line, most).countOf(mustHaveNode(line));
    }

    public int cutAt(int line, int most, int cut, int index)
            throws IndexOutOfBoundsException, IllegalArgumentException, UnsupportedOperationException,
            NoSuchElementException {
        Cuts cuts = mustHaveCuts(line, most);
        int node = mustHaveNode(line);
        if (cut < 0 || cut >= cuts.countOf(node)) {
            throw new NoSuchElementException("no such cut");
        }
        long key = cuts.keyOf(node, cut);
        if (index < 0 || index >= Cuts.sizeOf(key)) {
            throw new NoSuchElementException("no such node");
        }
        return Cuts.nodeAt(key, index);
    }

    public int table(int line, int most, int cut)
            throws IndexOutOfBoundsException, IllegalArgumentException, UnsupportedOperationException,
            NoSuchElementException {
        Cuts cuts = mustHaveCuts(line, most);
        int node = mustHaveNode(line);
        if (cut < 0 || cut >= cuts.countOf(node)) {
            throw new NoSuchElementException("no such cut");
        }
        return cuts.tableBy(node, cuts.keyOf(node, cut));
    }

    public int normal(int inputs, int table) throws IllegalArgumentException {
        mustBeWithin(inputs, 1, 4);
        mustBeWithin(table, 0, Cuts.fullTable(inputs));
        return Cuts.leastAlike(inputs, table);
    }

    public int coefficient(int which, int i, int j, int number) throws IllegalArgumentException {
        mustBeWithin(which, 0, 1);
        mustBeWithin(i, 0, MOST_POWER);
        mustBeWithin(j, 0, MOST_POWER);
        mustBeWithin(number, -MOST_COEFFICIENT, MOST_COEFFICIENT);
        int at = 16 * which + 4 * i + j;
        int before = numberAt(coefficients, at);
        putNumber(coefficients, at, number);
        return before;
    }

    public boolean areSame(int bits) throws IllegalArgumentException {
        mustBeWithin(bits, 1, MOST_BITS);
        int mask = (1 << bits) - 1;
        // A polynomial of powers up to 3 is a whole sum of binomials that its values at 0 to 3 tell,
        // so one that is 0 there, modulo the word, is 0 everywhere.
        for (int x = 0; x <= MOST_POWER; x++) {
            for (int y = 0; y <= MOST_POWER; y++) {
                if (((polynomial(0, x, y) - polynomial(1, x, y)) & mask) != 0) {
                    return false;
                }
            }
        }
        return true;
    }

    public int word(int which, int bits, int x, int y) throws IllegalArgumentException {
        mustBeWithin(which, 0, 1);
        mustBeWithin(bits, 1, MOST_BITS);
        return polynomial(which, x, y) & ((1 << bits) - 1);
    }

    public int seen(int line) throws IndexOutOfBoundsException, UnsupportedOperationException {
        mustBeLine(line);
        return mustBeClosed().care.seenCount(line);
    }

    public boolean isIdle(int line) throws IndexOutOfBoundsException, UnsupportedOperationException {
        mustBeLine(line);
        return mustBeClosed().care.seenCount(line) == 0;
    }

    public int patch(int line, int one, int two, int three, int four)
            throws IndexOutOfBoundsException, IllegalArgumentException, UnsupportedOperationException,
            NoSuchElementException {
        mustBeLine(line);
        mustBeLine(one);
        int[] over = { one, two, three, four };
        int count = 1;
        while (count < over.length && over[count] != -1) {
            mustBeLine(over[count]);
            count++;
        }
        if (!nets.canPatch(line, over, count)) {
            throw new IllegalArgumentException("no lines for a patch");
        }
        int told = mustBeClosed().care.patchTable(line, over, count);
        if (told < 0) {
            throw new NoSuchElementException("no patch");
        }
        return told;
    }

    public boolean correspond(int cell, int other, boolean isByName)
            throws IndexOutOfBoundsException, UnsupportedOperationException {
        mustBeLine(cell);
        mustBeLine(other);
        Registers registers = mustBeClosed().registers;
        mustBeCell(cell);
        mustBeCell(other);
        return isByName ? nets.nameOf(cell) == nets.nameOf(other) : registers.areTogether(cell, other);
    }

    public int cellClasses() throws UnsupportedOperationException {
        return mustBeClosed().registers.classCount();
    }

    public int reached() throws UnsupportedOperationException {
        States states = mustBeClosed().states;
        states.search();
        return states.reachedCount;
    }

    public int difference() throws UnsupportedOperationException {
        States states = mustBeClosed().states;
        states.search();
        return states.differsAt;
    }

    public int trace(int step) throws UnsupportedOperationException, NoSuchElementException {
        States states = mustBeClosed().states;
        states.search();
        if (step < 0 || step > states.differsAt) {
            throw new NoSuchElementException("no such step");
        }
        return states.traceAt(step);
    }

    public boolean isInductive(int k) throws IllegalArgumentException, UnsupportedOperationException {
        mustBeWithin(k, 0, MOST_INDUCTION);
        return mustBeClosed().states.isProvedBy(k);
    }

    public boolean isInvariant(int line) throws IndexOutOfBoundsException, UnsupportedOperationException {
        mustBeLine(line);
        return mustBeClosed().states.isAlwaysOne(line);
    }

    public int run(int net, int steps, int inputs) throws IllegalArgumentException, UnsupportedOperationException {
        mustBeWithin(net, 0, 1);
        mustBeWithin(steps, 0, MOST_STEPS);
        mustBeWithin(inputs, 0, (1 << nets.inputs) - 1);
        if (house != null && !house.values.areKeptInputs(inputs)) {
            throw new IllegalArgumentException("a constraint is not kept");
        }
        return mustBeClosed().states.outputsBehind(net, steps, inputs);
    }

    public int lines() {
        return nets.lines;
    }

    public float mergedShare() throws ArithmeticException {
        if (nets.lines == 0) {
            throw new ArithmeticException("no lines");
        }
        int count = house == null ? 0 : house.sweeping.mergedCount;
        return (float) count / (float) nets.lines;
    }

    public double meanSeen() throws UnsupportedOperationException, ArithmeticException {
        Care care = mustBeClosed().care;
        if (nets.lines == 0) {
            throw new ArithmeticException("no lines");
        }
        return (double) care.seenSum() / (double) nets.lines;
    }

    public boolean isSound() {
        return house == null || house.holdsTogether();
    }

    private void mustBeOpen() {
        if (house != null) {
            throw new UnsupportedOperationException("the nets are closed");
        }
    }

    private Closed mustBeClosed() {
        if (house == null) {
            throw new UnsupportedOperationException("the nets are not closed");
        }
        return house;
    }

    private void mustBeLine(int line) {
        if (!nets.hasLine(line)) {
            throw new IndexOutOfBoundsException("no such line");
        }
    }

    private void mustBeCell(int line) {
        if (!nets.isCell(line)) {
            throw new UnsupportedOperationException("no cell");
        }
    }

    private void mustBeChoice(int choice) {
        mustBeWithin(choice, 0, (1 << nets.sourceCount()) - 1);
    }

    private Cuts mustHaveCuts(int line, int most) {
        mustBeLine(line);
        mustBeWithin(most, 2, 4);
        Cuts cuts = mustBeClosed().cutsOf(most);
        cuts.build();
        return cuts;
    }

    private int mustHaveNode(int line) {
        int node = mustBeClosed().ands.literalOf(line) >> 1;
        if (node == 0) {
            throw new UnsupportedOperationException("the node 0");
        }
        return node;
    }

    private int polynomial(int which, int x, int y) {
        int sum = 0;
        for (int i = MOST_POWER; i >= 0; i--) {
            int inner = 0;
            for (int j = MOST_POWER; j >= 0; j--) {
                inner = inner * y + numberAt(coefficients, 16 * which + 4 * i + j);
            }
            sum = sum * x + inner;
        }
        return sum;
    }

    private static void mustBeWithin(int number, int least, int greatest) {
        if (number < least || number > greatest) {
            throw new IllegalArgumentException("a number is out of range");
        }
    }

    private static boolean isPairKind(char kind) {
        return kind == 'a' || kind == 'o' || kind == 'x' || kind == 'n' || kind == 'r';
    }

    private static int numberAt(int[] row, int index) {
        return index >= 0 && index < row.length ? row[index] : 0;
    }

    private static void putNumber(int[] row, int index, int number) {
        if (index >= 0 && index < row.length) {
            row[index] = number;
        }
    }

    private static long wordAt(long[] row, int index) {
        return index >= 0 && index < row.length ? row[index] : 0L;
    }

    private static void putWord(long[] row, int index, long word) {
        if (index >= 0 && index < row.length) {
            row[index] = word;
        }
    }

    private static long highHalf(int bit) {
        return bit >= 0 && bit < HIGH_HALVES.length ? HIGH_HALVES[bit] : 0L;
    }

    private static int lowestBit(long word) {
        return Long.bitCount((word & -word) - 1);
    }

    /** Where a gate is known to be 1, of where its pins are known to be 1 and to be 0. */
    private static long oneOf(char kind, long oneA, long zeroA, long oneB, long zeroB) {
        switch (kind) {
            case 'a':
                return oneA & oneB;
            case 'n':
                return zeroA | zeroB;
            case 'o':
                return oneA | oneB;
            case 'r':
                return zeroA & zeroB;
            case 'x':
                return oneA & zeroB | zeroA & oneB;
            case 'v':
                return zeroA;
            default:
                return oneA;
        }
    }

    /** Where a gate is known to be 0. */
    private static long zeroOf(char kind, long oneA, long zeroA, long oneB, long zeroB) {
        switch (kind) {
            case 'a':
                return zeroA | zeroB;
            case 'n':
                return oneA & oneB;
            case 'o':
                return zeroA & zeroB;
            case 'r':
                return oneA | oneB;
            case 'x':
                return oneA & oneB | zeroA & zeroB;
            case 'v':
                return oneA;
            default:
                return zeroA;
        }
    }

    /** The lines of both nets. */
    private static final class Nets {
        final char[] kinds;
        final int[] owners;
        final int[] ones;
        final int[] twos;
        final int[] firsts;
        final int[] names;
        final int[] outputs;
        final int[] outputCounts;
        final int[] cellCounts;
        final int[] sources;
        final int[] marks;
        int lines;
        int inputs;

        Nets() {
            kinds = new char[MOST_LINES];
            owners = new int[MOST_LINES];
            ones = new int[MOST_LINES];
            twos = new int[MOST_LINES];
            firsts = new int[MOST_LINES];
            names = new int[MOST_LINES];
            outputs = new int[2 * MOST_OUTPUTS];
            outputCounts = new int[2];
            cellCounts = new int[2];
            sources = new int[MOST_SOURCES];
            marks = new int[MOST_LINES];
            lines = 0;
            inputs = 0;
        }

        boolean hasLine(int line) {
            return line >= 0 && line < lines;
        }

        char kindOf(int line) {
            return line >= 0 && line < kinds.length ? kinds[line] : INPUT;
        }

        boolean isInput(int line) {
            return kindOf(line) == INPUT;
        }

        boolean isCell(int line) {
            return kindOf(line) == CELL;
        }

        boolean isGate(int line) {
            char kind = kindOf(line);
            return kind != INPUT && kind != CELL;
        }

        int ownerOf(int line) {
            return numberAt(owners, line);
        }

        int oneOfPins(int line) {
            return numberAt(ones, line);
        }

        int twoOfPins(int line) {
            return numberAt(twos, line);
        }

        /** The data of a cell stand where a gate has its first pin. */
        int dataOf(int cell) {
            return numberAt(ones, cell);
        }

        int firstOf(int cell) {
            return numberAt(firsts, cell);
        }

        int nameOf(int cell) {
            return numberAt(names, cell);
        }

        int cellsOf(int net) {
            return numberAt(cellCounts, net);
        }

        int outputsOf(int net) {
            return numberAt(outputCounts, net);
        }

        int outputAt(int net, int index) {
            return numberAt(outputs, net * MOST_OUTPUTS + index);
        }

        int sourceCount() {
            return inputs + cellsOf(0) + cellsOf(1);
        }

        int sourceLine(int source) {
            return numberAt(sources, source);
        }

        boolean fits(int net, int line) {
            return ownerOf(line) == net || ownerOf(line) == BOTH_NETS;
        }

        int cellNamed(int net, int name) {
            for (int line = 0; line < lines; line++) {
                if (isCell(line) && ownerOf(line) == net && nameOf(line) == name) {
                    return line;
                }
            }
            return -1;
        }

        /** The cell of the net 1 that has the name of this cell of the net 0. */
        int twinOf(int cell) {
            return isCell(cell) && ownerOf(cell) == 0 ? cellNamed(1, nameOf(cell)) : -1;
        }

        int addInput() {
            inputs++;
            return addLine(BOTH_NETS, INPUT, -1, -1);
        }

        int addCell(int net, int first, int name) {
            putNumber(firsts, lines, first);
            putNumber(names, lines, name);
            putNumber(cellCounts, net, cellsOf(net) + 1);
            return addLine(net, CELL, -1, -1);
        }

        int addGate(int net, char kind, int one, int two) {
            return addLine(net, kind, one, two);
        }

        private int addLine(int owner, char kind, int one, int two) {
            int line = lines;
            if (line < kinds.length) {
                kinds[line] = kind;
            }
            putNumber(owners, line, owner);
            putNumber(ones, line, one);
            putNumber(twos, line, two);
            lines = line + 1;
            return line;
        }

        int changeData(int cell, int line) {
            int before = dataOf(cell);
            putNumber(ones, cell, line);
            return before;
        }

        int addOutput(int net, int line) {
            int index = outputsOf(net);
            putNumber(outputs, net * MOST_OUTPUTS + index, line);
            putNumber(outputCounts, net, index + 1);
            return index;
        }

        boolean canBeClosed() {
            for (int line = 0; line < lines; line++) {
                if (isCell(line) && dataOf(line) < 0) {
                    return false;
                }
            }
            return outputsOf(0) == outputsOf(1) && outputsOf(0) >= 1;
        }

        void gatherSources() {
            int input = 0;
            int cell = inputs;
            for (int line = 0; line < lines; line++) {
                if (isInput(line)) {
                    putNumber(sources, input, line);
                    input++;
                } else if (isCell(line)) {
                    putNumber(sources, cell, line);
                    cell++;
                }
            }
        }

        int sourceAtLine(int line) {
            for (int source = 0; source < sourceCount(); source++) {
                if (sourceLine(source) == line) {
                    return source;
                }
            }
            return -1;
        }

        boolean dependsOnCell(int line) {
            for (int i = 0; i <= line; i++) {
                putNumber(marks, i, isCell(i) || hasMarkedPin(i) ? 1 : 0);
            }
            return numberAt(marks, line) == 1;
        }

        /** A line counts as one that depends on itself. */
        boolean dependsOn(int line, int on) {
            for (int i = 0; i <= line; i++) {
                putNumber(marks, i, i == on || hasMarkedPin(i) ? 1 : 0);
            }
            return numberAt(marks, line) == 1;
        }

        private boolean hasMarkedPin(int line) {
            return isGate(line)
                    && (numberAt(marks, oneOfPins(line)) == 1 || numberAt(marks, twoOfPins(line)) == 1);
        }

        boolean canPatch(int line, int[] over, int count) {
            if (ownerOf(line) != 1) {
                return false;
            }
            for (int i = 0; i < count; i++) {
                int each = numberAt(over, i);
                if (ownerOf(each) == 0 || dependsOn(each, line)) {
                    return false;
                }
                for (int k = 0; k < i; k++) {
                    if (numberAt(over, k) == each) {
                        return false;
                    }
                }
            }
            return true;
        }
    }

    /**
     * All values of all lines at once, 64 choices in a word. A choice stands at its mirrored number,
     * so that the first source is the highest bit: the choices then stand in the order in which the
     * tree of decisions comes to them. The tree's inner nodes are numbered from 1, the ways on from
     * the node n being 2n and 2n + 1, and each line has where it is known there as 0 and as 1.
     */
    private static final class Values {
        final Nets nets;
        final int sources;
        final int words;
        final long every;
        final long[] held;
        final long[] knownZeros;
        final long[] knownOnes;
        final long[] kept;
        final long[] refuted;
        int constraints;
        int keptChoices;
        long keptInputs;

        Values(Nets closedNets) {
            nets = closedNets;
            sources = Math.max(0, Math.min(MOST_SOURCES, closedNets.sourceCount()));
            words = sources > 6 ? 1 << (sources - 6) : 1;
            every = sources >= 6 ? -1L : (1L << (1 << sources)) - 1;
            int size = Math.max(0, Math.min(MOST_LINES, closedNets.lines)) * words;
            held = new long[size];
            knownZeros = new long[size];
            knownOnes = new long[size];
            kept = new long[words];
            refuted = new long[words];
            constraints = 0;
            keptChoices = 1 << sources;
            keptInputs = -1L;
        }

        void fill() {
            Arrays.fill(kept, every);
            for (int line = 0; line < nets.lines; line++) {
                if (nets.isGate(line)) {
                    fillGate(line);
                } else {
                    fillSource(line, nets.sourceAtLine(line));
                }
            }
        }

        private void fillSource(int line, int source) {
            for (int w = 0; w < words; w++) {
                int at = line * words + w;
                putWord(held, at, bitOfIndex(sources - 1 - source, w) & every);
                int level = 5;
                for (int rest = w; rest > 0; rest >>= 1) {
                    level++;
                }
                if (w == 0) {
                    putWord(knownOnes, at, upperTree(source, 0L));
                    putWord(knownZeros, at, upperTree(source, -1L));
                } else if (level > source) {
                    long decided = bitOfIndex(level - 1 - source, w);
                    putWord(knownOnes, at, decided);
                    putWord(knownZeros, at, ~decided);
                }
            }
        }

        /** Which numbers of this word have the bit told. */
        private static long bitOfIndex(int bit, int w) {
            if (bit < 6) {
                return highHalf(bit);
            }
            return (w >> (bit - 6) & 1) != 0 ? -1L : 0L;
        }

        /** A source at the six upper levels of the tree, which share the word 0. */
        private static long upperTree(int source, long turned) {
            long told = 0L;
            for (int level = source + 1; level < 6; level++) {
                long range = ((1L << (1 << level)) - 1) << (1 << level);
                told |= (highHalf(level - 1 - source) ^ turned) & range;
            }
            return told;
        }

        private void fillGate(int line) {
            char kind = nets.kindOf(line);
            for (int w = 0; w < words; w++) {
                int at = line * words + w;
                int one = nets.oneOfPins(line) * words + w;
                int two = nets.twoOfPins(line) * words + w;
                long a = wordAt(held, one);
                long b = wordAt(held, two);
                putWord(held, at, oneOf(kind, a, ~a, b, ~b) & every);
                long oneA = wordAt(knownOnes, one);
                long zeroA = wordAt(knownZeros, one);
                long oneB = wordAt(knownOnes, two);
                long zeroB = wordAt(knownZeros, two);
                putWord(knownOnes, at, oneOf(kind, oneA, zeroA, oneB, zeroB));
                putWord(knownZeros, at, zeroOf(kind, oneA, zeroA, oneB, zeroB));
            }
        }

        long heldWord(int line, int w) {
            return wordAt(held, line * words + w);
        }

        long keptWord(int w) {
            return wordAt(kept, w);
        }

        /** The inner nodes at which two lines are known and the same, or a constraint is known to be 0. */
        long leafWord(int line, int other, boolean isInverted, int w) {
            int a = line * words + w;
            int b = other * words + w;
            long ones = isInverted ? wordAt(knownZeros, b) : wordAt(knownOnes, b);
            long zeros = isInverted ? wordAt(knownOnes, b) : wordAt(knownZeros, b);
            return wordAt(knownOnes, a) & ones | wordAt(knownZeros, a) & zeros | wordAt(refuted, w);
        }

        /** The number with its sources' bits in the opposite order, which goes both ways. */
        int mirrored(int number) {
            int told = number & 0xFFFF;
            told = (told & 0x5555) << 1 | told >>> 1 & 0x5555;
            told = (told & 0x3333) << 2 | told >>> 2 & 0x3333;
            told = (told & 0x0F0F) << 4 | told >>> 4 & 0x0F0F;
            told = (told & 0x00FF) << 8 | told >>> 8 & 0x00FF;
            return told >>> (16 - sources);
        }

        int bitAtChoice(int line, int choice) {
            int index = mirrored(choice);
            return (int) (wordAt(held, line * words + (index >> 6)) >>> (index & 63)) & 1;
        }

        boolean isKept(int choice) {
            int index = mirrored(choice);
            return (keptWord(index >> 6) >>> (index & 63) & 1) != 0;
        }

        boolean areKeptInputs(int inputs) {
            return (keptInputs >>> inputs & 1) != 0;
        }

        int keptWith(int line) {
            int count = 0;
            for (int w = 0; w < words; w++) {
                count += Long.bitCount(keptWord(w) & heldWord(line, w));
            }
            return count;
        }

        void keepAlso(int line) {
            for (int w = 0; w < words; w++) {
                putWord(kept, w, keptWord(w) & heldWord(line, w));
                putWord(refuted, w, wordAt(refuted, w) | wordAt(knownZeros, line * words + w));
            }
            constraints++;
            keptChoices = keptWith(line);
            keptInputs = 0L;
            // Constraints depend on inputs alone, so the state in which all cells are 0 tells of all.
            for (int inputs = 0; inputs < 1 << nets.inputs; inputs++) {
                if (isKept(inputs)) {
                    keptInputs |= 1L << inputs;
                }
            }
        }
    }

    /** The nodes of ands, and the literals of lines. */
    private static final class Ands {
        final Nets nets;
        final int[] lesser;
        final int[] greater;
        final int[] literals;
        final int firstAnd;
        int nodes;

        Ands(Nets closedNets) {
            nets = closedNets;
            lesser = new int[MOST_NODES];
            greater = new int[MOST_NODES];
            literals = new int[MOST_LINES];
            firstAnd = 1 + closedNets.sourceCount();
            nodes = firstAnd;
        }

        void fill() {
            for (int line = 0; line < nets.lines; line++) {
                int told = nets.isGate(line) ? gateLiteral(line) : 2 * (1 + nets.sourceAtLine(line));
                putNumber(literals, line, told);
            }
        }

        private int gateLiteral(int line) {
            int a = literalOf(nets.oneOfPins(line));
            int b = literalOf(nets.twoOfPins(line));
            switch (nets.kindOf(line)) {
                case 'a':
                    return both(a, b);
                case 'n':
                    return both(a, b) ^ 1;
                case 'o':
                    return both(a ^ 1, b ^ 1) ^ 1;
                case 'r':
                    return both(a ^ 1, b ^ 1);
                case 'x':
                    int isAll = both(a, b);
                    int isNone = both(a ^ 1, b ^ 1);
                    return both(isAll ^ 1, isNone ^ 1);
                case 'v':
                    return a ^ 1;
                default:
                    return a;
            }
        }

        /**
         * Only the greater literal is looked into: the pins of a node have lesser numbers than it, so
         * the greater one is never a pin of the lesser one.
         */
        private int both(int a, int b) {
            int p = Math.min(a, b);
            int q = Math.max(a, b);
            for (int round = 0; round < MOST_NODES; round++) {
                if (p == 0 || (p ^ 1) == q) {
                    return 0;
                }
                if (p == 1 || p == q) {
                    return q;
                }
                int c = lesserPin(q >> 1);
                int d = greaterPin(q >> 1);
                boolean isInner = isAnd(q >> 1);
                boolean isPin = p == c || p == d;
                boolean isTurnedPin = p == (c ^ 1) || p == (d ^ 1);
                boolean isInverted = (q & 1) == 1;
                if (!isInner || !isPin && !isTurnedPin) {
                    return nodeOf(p, q);
                }
                if (!isInverted) {
                    return isTurnedPin ? 0 : q;
                }
                if (isTurnedPin) {
                    return p;
                }
                int rest = (p == c ? d : c) ^ 1;
                q = Math.max(p, rest);
                p = Math.min(p, rest);
            }
            return nodeOf(p, q);
        }

        private int nodeOf(int p, int q) {
            for (int node = firstAnd; node < nodes; node++) {
                if (numberAt(lesser, node) == p && numberAt(greater, node) == q) {
                    return 2 * node;
                }
            }
            putNumber(lesser, nodes, p);
            putNumber(greater, nodes, q);
            nodes++;
            return 2 * (nodes - 1);
        }

        int literalOf(int line) {
            return numberAt(literals, line);
        }

        int lesserPin(int node) {
            return numberAt(lesser, node);
        }

        int greaterPin(int node) {
            return numberAt(greater, node);
        }

        boolean isAnd(int node) {
            return node >= firstAnd && node < nodes;
        }

        int andCount() {
            return nodes - firstAnd;
        }
    }

    /** Proofs by trees, patterns, and the merges that come of both. */
    private static final class Sweeping {
        final Nets nets;
        final Values values;
        final long[] signatures;
        final int[] targets;
        int patternCount;
        int mergedCount;
        long proofSum;
        /** Of the last comparison: the leaves in front of the difference, or all, and the difference. */
        int leaves;
        int witness;

        Sweeping(Nets closedNets, Values allValues) {
            nets = closedNets;
            values = allValues;
            signatures = new long[MOST_LINES];
            targets = new int[MOST_LINES];
            for (int line = 0; line < targets.length; line++) {
                targets[line] = 2 * line;
            }
            patternCount = 0;
            mergedCount = 0;
            proofSum = 0L;
            leaves = 0;
            witness = -1;
        }

        long signatureOf(int line) {
            return wordAt(signatures, line);
        }

        int targetOf(int line) {
            return numberAt(targets, line);
        }

        private boolean isMerged(int line) {
            return targetOf(line) != 2 * line;
        }

        int addPattern(int choice) {
            int number = patternCount;
            for (int line = 0; line < nets.lines; line++) {
                long bit = values.bitAtChoice(line, choice);
                putWord(signatures, line, signatureOf(line) | bit << number);
            }
            patternCount = number + 1;
            return number;
        }

        private boolean areAlike(int line, int other, boolean isInverted) {
            long all = patternCount >= 64 ? -1L : (1L << patternCount) - 1;
            return (signatureOf(line) ^ signatureOf(other)) == (isInverted ? all : 0L);
        }

        int candidateCount(int line) {
            int count = 0;
            for (int other = 0; other < nets.lines; other++) {
                if (other != line && (areAlike(line, other, false) || areAlike(line, other, true))) {
                    count++;
                }
            }
            return count;
        }

        /**
         * What is known at a node stays known below it, so the nodes that are no leaves hang together
         * from the root. A tree of so many of them has one leaf more; in front of a difference, each
         * way to the right on the way to it leaves one such tree at its left.
         */
        void compare(int line, int other, boolean isInverted) {
            int index = firstDifference(line, other, isInverted);
            if (index < 0) {
                witness = -1;
                leaves = 1 + openBetween(line, other, isInverted, 1, 1 << values.sources);
                return;
            }
            witness = values.mirrored(index);
            leaves = Long.bitCount(index);
            for (int level = 0; level < values.sources; level++) {
                int from = 1 << level;
                int to = from + (index >> (values.sources - level));
                leaves += openBetween(line, other, isInverted, from, to);
            }
        }

        private int firstDifference(int line, int other, boolean isInverted) {
            long turned = isInverted ? -1L : 0L;
            for (int w = 0; w < values.words; w++) {
                long unlike = (values.heldWord(line, w) ^ values.heldWord(other, w) ^ turned) & values.keptWord(w);
                if (unlike != 0L) {
                    return 64 * w + lowestBit(unlike);
                }
            }
            return -1;
        }

        /** How many inner nodes of the tree from this number to less than that are no leaves. */
        private int openBetween(int line, int other, boolean isInverted, int from, int to) {
            int count = 0;
            for (int w = from >> 6; 64 * w < to; w++) {
                long open = ~values.leafWord(line, other, isInverted, w);
                if (64 * w < from) {
                    open &= -1L << (from & 63);
                }
                if (to - 64 * w < 64) {
                    open &= (1L << (to & 63)) - 1;
                }
                count += Long.bitCount(open);
            }
            return count;
        }

        void sweepAll(int budget) {
            for (int line = 0; line < nets.lines; line++) {
                for (int other = 0; other < line && !isMerged(line); other++) {
                    if (!isMerged(other)) {
                        tryMerge(line, other, budget);
                    }
                }
            }
        }

        private void tryMerge(int line, int other, int budget) {
            boolean isInverted = !areAlike(line, other, false);
            if (isInverted && !areAlike(line, other, true)) {
                return;
            }
            compare(line, other, isInverted);
            if (leaves > budget) {
                return;
            }
            if (witness < 0) {
                putNumber(targets, line, 2 * other + (isInverted ? 1 : 0));
                mergedCount++;
                proofSum += leaves;
            } else if (patternCount < MOST_PATTERNS) {
                addPattern(witness);
            }
        }

        /** Whether merged lines, and outputs that a tree proves, are the same wherever it matters. */
        boolean isRight() {
            for (int line = 0; line < nets.lines; line++) {
                int target = targetOf(line);
                if (isMerged(line) && firstDifference(line, target >> 1, (target & 1) == 1) >= 0) {
                    return false;
                }
            }
            for (int index = 0; index < nets.outputsOf(0); index++) {
                int one = nets.outputAt(0, index);
                int other = nets.outputAt(1, index);
                compare(one, other, false);
                if (witness < 0 != areSameEverywhere(one, other)) {
                    return false;
                }
            }
            return true;
        }

        private boolean areSameEverywhere(int one, int other) {
            for (int choice = 0; choice < 1 << values.sources; choice++) {
                if (values.isKept(choice) && values.bitAtChoice(one, choice) != values.bitAtChoice(other, choice)) {
                    return false;
                }
            }
            return true;
        }
    }

    /** A set of keys that are numbered as they come; it grows, and can be emptied at no cost. */
    private static final class Keys {
        long[] keys;
        int[] slots;
        int[] rounds;
        int count;
        int round;

        Keys() {
            keys = new long[32];
            slots = new int[64];
            rounds = new int[64];
            count = 0;
            round = 1;
        }

        void empty() {
            count = 0;
            round++;
        }

        long keyAt(int number) {
            return wordAt(keys, number);
        }

        int find(long key) {
            int slot = slotOf(key);
            return isUsed(slot) ? numberAt(slots, slot) : -1;
        }

        /** The number of the key, which is new if it was not there; -1 if there is no room. */
        int add(long key) {
            int slot = slotOf(key);
            if (isUsed(slot)) {
                return numberAt(slots, slot);
            }
            if (count >= keys.length) {
                if (count >= MOST_KEYS) {
                    return -1;
                }
                grow();
                slot = slotOf(key);
            }
            putWord(keys, count, key);
            putNumber(slots, slot, count);
            putNumber(rounds, slot, round);
            count++;
            return count - 1;
        }

        private boolean isUsed(int slot) {
            return slot >= 0 && slot < rounds.length && rounds[slot] == round;
        }

        /** The slot of the key, or the free one that it would take; half of the slots stay free. */
        private int slotOf(long key) {
            int slot = (int) (key * 0x9E3779B97F4A7C15L >>> 40) & (slots.length - 1);
            for (int step = 0; step < slots.length; step++) {
                if (slot < 0 || slot >= slots.length || slot >= rounds.length || rounds[slot] != round) {
                    return slot;
                }
                int number = slots[slot];
                if (number >= 0 && number < keys.length && keys[number] == key) {
                    return slot;
                }
                slot = (slot + 1) & (slots.length - 1);
            }
            return slot;
        }

        private void grow() {
            keys = Arrays.copyOf(keys, 2 * keys.length);
            slots = new int[2 * keys.length];
            rounds = new int[2 * keys.length];
            for (int number = 0; number < count; number++) {
                int slot = slotOf(wordAt(keys, number));
                putNumber(slots, slot, number);
                putNumber(rounds, slot, round);
            }
        }
    }

    /**
     * The order of sources and the sizes of diagrams. Tables of values are put in the order, the
     * first source at the highest bit; the nodes of a source are then the unlike parts of tables that
     * have unlike halves, at its level.
     */
    private static final class Diagrams {
        final Nets nets;
        final Values values;
        final int sources;
        final int words;
        final int[] order;
        final int[] standing;
        final long[] tables;
        final int[] parts;
        final Keys firstKeys;
        final Keys secondKeys;
        int used;

        Diagrams(Nets closedNets, Values allValues) {
            nets = closedNets;
            values = allValues;
            sources = allValues.sources;
            words = allValues.words;
            order = new int[allValues.sources];
            standing = new int[allValues.sources];
            for (int place = 0; place < order.length; place++) {
                order[place] = place;
            }
            tables = new long[2 * MOST_OUTPUTS * allValues.words];
            parts = new int[2 * MOST_OUTPUTS * allValues.words];
            firstKeys = new Keys();
            secondKeys = new Keys();
            used = 0;
        }

        int whereIs(int source) {
            for (int place = 0; place < order.length; place++) {
                if (order[place] == source) {
                    return place;
                }
            }
            return 0;
        }

        int moveSource(int source, int place) {
            int before = whereIs(source);
            int step = place < before ? -1 : 1;
            for (int at = before; at != place && at >= 0 && at < order.length; at += step) {
                putNumber(order, at, numberAt(order, at + step));
            }
            putNumber(order, place, source);
            return before;
        }

        int sizeOf(int line) {
            used = 0;
            addTable(line);
            arrange();
            return nodeCount();
        }

        int sizeOfAll() {
            loadOutputs();
            return nodeCount();
        }

        private void loadOutputs() {
            used = 0;
            for (int net = 0; net < 2; net++) {
                for (int index = 0; index < nets.outputsOf(net); index++) {
                    addTable(nets.outputAt(net, index));
                }
            }
            arrange();
        }

        /** A table of less than 64 bits is repeated, as if there were sources in front that do nothing. */
        private void addTable(int line) {
            for (int w = 0; w < words; w++) {
                long word = values.heldWord(line, w);
                for (int bits = 1 << sources; bits < 64; bits <<= 1) {
                    word |= word << bits;
                }
                putWord(tables, used, word);
                used++;
            }
        }

        /** Brings tables that stand by rising sources into the order. */
        private void arrange() {
            for (int place = 0; place < standing.length; place++) {
                standing[place] = place;
            }
            for (int place = 0; place < order.length; place++) {
                int at = place;
                for (int later = place; later < standing.length; later++) {
                    if (standing[later] == order[place]) {
                        at = later;
                    }
                }
                putNumber(standing, at, numberAt(standing, place));
                exchange(place, at);
            }
        }

        /** Exchanges what stands at two places, the first one in front of the other one, in all tables. */
        private void exchange(int place, int other) {
            int high = sources - 1 - place;
            int low = sources - 1 - other;
            if (high == low) {
                return;
            }
            for (int at = 0; at < used; at++) {
                if (high < 6) {
                    exchangeInWord(at, high, low);
                } else if ((at >> (high - 6) & 1) == 0) {
                    exchangeWords(at, at + (1 << (high - 6)), low);
                }
            }
        }

        private void exchangeInWord(int at, int high, int low) {
            long word = wordAt(tables, at);
            int far = (1 << high) - (1 << low);
            long moved = (word >>> far ^ word) & ~highHalf(high) & highHalf(low);
            putWord(tables, at, word ^ moved ^ moved << far);
        }

        private void exchangeWords(int at, int above, int low) {
            if (low < 6) {
                long word = wordAt(tables, at);
                long other = wordAt(tables, above);
                long moved = (word >>> (1 << low) ^ other) & ~highHalf(low);
                putWord(tables, at, word ^ moved << (1 << low));
                putWord(tables, above, other ^ moved);
            } else if ((at >> (low - 6) & 1) == 1) {
                int below = above - (1 << (low - 6));
                long word = wordAt(tables, at);
                putWord(tables, at, wordAt(tables, below));
                putWord(tables, below, word);
            }
        }

        private int nodeCount() {
            firstKeys.empty();
            for (int at = 0; at < used; at++) {
                putNumber(parts, at, firstKeys.add(wordAt(tables, at)));
            }
            return nodesAboveWords(firstKeys.count) + nodesInWords();
        }

        /** Numbers parts of tables from words upwards; one with halves alike is its half. */
        private int nodesAboveWords(int wordCount) {
            int numbered = wordCount;
            int width = used;
            for (int each = words; each > 1; each >>= 1) {
                secondKeys.empty();
                width >>= 1;
                for (int at = 0; at < width; at++) {
                    int low = numberAt(parts, 2 * at);
                    int high = numberAt(parts, 2 * at + 1);
                    int told = low == high ? low : numbered + secondKeys.add((long) low << 32 | high);
                    putNumber(parts, at, told);
                }
                numbered += secondKeys.count;
            }
            return numbered - wordCount;
        }

        private int nodesInWords() {
            Keys whole = firstKeys;
            Keys halves = secondKeys;
            int count = 0;
            for (int half = 32; half >= 1; half >>= 1) {
                halves.empty();
                long mask = (1L << half) - 1;
                for (int number = 0; number < whole.count; number++) {
                    long low = whole.keyAt(number) & mask;
                    long high = whole.keyAt(number) >>> half & mask;
                    count += low == high ? 0 : 1;
                    halves.add(low);
                    halves.add(high);
                }
                Keys next = halves;
                halves = whole;
                whole = next;
            }
            return count;
        }

        int siftAll() {
            loadOutputs();
            int least = 0;
            for (int source = 0; source < sources; source++) {
                for (int place = whereIs(source); place > 0; place--) {
                    swapWithNext(place - 1);
                }
                int best = 0;
                least = nodeCount();
                for (int place = 1; place < sources; place++) {
                    swapWithNext(place - 1);
                    int size = nodeCount();
                    if (size < least) {
                        least = size;
                        best = place;
                    }
                }
                for (int place = sources - 1; place > best; place--) {
                    swapWithNext(place - 1);
                }
            }
            return least;
        }

        private void swapWithNext(int place) {
            int source = numberAt(order, place);
            putNumber(order, place, numberAt(order, place + 1));
            putNumber(order, place + 1, source);
            exchange(place, place + 1);
        }
    }

    /**
     * The cuts of all nodes, of at most so many nodes. A cut is held as a number: how many nodes it
     * has, then its nodes, rising, in a byte each, so that cuts are in their order as numbers are.
     */
    private static final class Cuts {
        final Ands ands;
        final int most;
        final int[] starts;
        final int[] held;
        final Keys unions;
        long[] pool;
        int used;
        boolean isBuilt;

        Cuts(Ands allAnds, int mostNodes) {
            ands = allAnds;
            most = mostNodes;
            starts = new int[MOST_NODES + 1];
            held = new int[MOST_NODES];
            unions = new Keys();
            pool = new long[64];
            used = 0;
            isBuilt = false;
        }

        void build() {
            if (isBuilt) {
                return;
            }
            isBuilt = true;
            for (int node = 1; node < ands.nodes; node++) {
                putNumber(starts, node, used);
                if (ands.isAnd(node)) {
                    addCutsOf(node);
                } else {
                    keep(single(node));
                }
                putNumber(starts, node + 1, used);
            }
        }

        private static long single(int node) {
            return 1L << 32 | (long) node << 24;
        }

        static int sizeOf(long key) {
            return (int) (key >>> 32);
        }

        static int nodeAt(long key, int index) {
            return (int) (key >>> (24 - 8 * index)) & 255;
        }

        int countOf(int node) {
            return numberAt(starts, node + 1) - numberAt(starts, node);
        }

        long keyOf(int node, int cut) {
            return wordAt(pool, numberAt(starts, node) + cut);
        }

        private void addCutsOf(int node) {
            int one = ands.lesserPin(node) >> 1;
            int other = ands.greaterPin(node) >> 1;
            unions.empty();
            unions.add(single(node));
            for (int i = 0; i < countOf(one); i++) {
                for (int j = 0; j < countOf(other); j++) {
                    long key = union(keyOf(one, i), keyOf(other, j));
                    if (key != 0L) {
                        unions.add(key);
                    }
                }
            }
            int from = used;
            for (int number = 0; number < unions.count; number++) {
                long key = unions.keyAt(number);
                if (!holdsAnother(key)) {
                    keep(key);
                }
            }
            sort(from, used);
        }

        /** The nodes of both, or 0 if these are too many. */
        private long union(long one, long other) {
            int i = 0;
            int j = 0;
            int size = 0;
            long nodes = 0L;
            while (i < sizeOf(one) || j < sizeOf(other)) {
                int a = i < sizeOf(one) ? nodeAt(one, i) : MOST_NODES;
                int b = j < sizeOf(other) ? nodeAt(other, j) : MOST_NODES;
                if (size == most) {
                    return 0L;
                }
                nodes |= (long) Math.min(a, b) << (24 - 8 * size);
                size++;
                i += a <= b ? 1 : 0;
                j += b <= a ? 1 : 0;
            }
            return (long) size << 32 | nodes;
        }

        /**
         * Also one that is itself held out tells: what it holds is held by the greater one as well.
         */
        private boolean holdsAnother(long key) {
            int size = sizeOf(key);
            for (int part = 1; part < (1 << size) - 1; part++) {
                long nodes = 0L;
                int count = 0;
                for (int index = 0; index < size; index++) {
                    if ((part >> index & 1) == 1) {
                        nodes |= (long) nodeAt(key, index) << (24 - 8 * count);
                        count++;
                    }
                }
                if (unions.find((long) count << 32 | nodes) >= 0) {
                    return true;
                }
            }
            return false;
        }

        private void keep(long key) {
            if (used >= pool.length && used < MOST_KEYS) {
                pool = Arrays.copyOf(pool, 2 * pool.length);
            }
            if (used < pool.length) {
                pool[used] = key;
                used++;
            }
        }

        private void sort(int from, int to) {
            for (int gap = to - from >> 1; gap > 0; gap >>= 1) {
                for (int at = from + gap; at < to; at++) {
                    long key = wordAt(pool, at);
                    int place = at;
                    while (place - gap >= from && wordAt(pool, place - gap) > key) {
                        putWord(pool, place, wordAt(pool, place - gap));
                        place -= gap;
                    }
                    putWord(pool, place, key);
                }
            }
        }

        int tableBy(int node, long key) {
            for (int each = 0; each <= node; each++) {
                putNumber(held, each, literalTable(ands.lesserPin(each)) & literalTable(ands.greaterPin(each)));
                for (int index = 0; index < sizeOf(key); index++) {
                    if (nodeAt(key, index) == each) {
                        putNumber(held, each, (int) highHalf(index));
                    }
                }
            }
            return numberAt(held, node) & fullTable(sizeOf(key));
        }

        private int literalTable(int literal) {
            int told = numberAt(held, literal >> 1);
            return (literal & 1) == 1 ? ~told : told;
        }

        static int fullTable(int inputs) {
            return (1 << (1 << inputs)) - 1;
        }

        /** Turning 2, 3 and 4 inputs in circles, one in the other, goes through all their orders. */
        static int leastAlike(int inputs, int table) {
            int least = table;
            int now = table;
            for (int four = 0; four < (inputs > 3 ? 4 : 1); four++) {
                for (int three = 0; three < (inputs > 2 ? 3 : 1); three++) {
                    for (int two = 0; two < (inputs > 1 ? 2 : 1); two++) {
                        least = Math.min(least, leastTurned(inputs, now));
                        now = exchanged(now, 0, inputs);
                    }
                    now = exchanged(exchanged(now, 0, inputs), 1, inputs);
                }
                now = exchanged(exchanged(exchanged(now, 0, inputs), 1, inputs), 2, inputs);
            }
            return least;
        }

        private static int leastTurned(int inputs, int table) {
            int least = table;
            for (int turns = 0; turns < 1 << inputs; turns++) {
                int now = table;
                for (int input = 0; input < inputs; input++) {
                    if ((turns >> input & 1) == 1) {
                        int high = (int) highHalf(input);
                        now = (now & high) >>> (1 << input) | now << (1 << input) & high;
                        now &= fullTable(inputs);
                    }
                }
                least = Math.min(least, Math.min(now, ~now & fullTable(inputs)));
            }
            return least;
        }

        /** The table with an input and the next one exchanged, if both are there. */
        private static int exchanged(int table, int input, int inputs) {
            if (input + 1 >= inputs) {
                return table;
            }
            int far = 1 << input;
            int moved = (table >>> far ^ table) & ~(int) highHalf(input + 1) & (int) highHalf(input);
            return table ^ moved ^ moved << far;
        }
    }

    /** What a line matters for, and what could stand in its place. */
    private static final class Care {
        final Nets nets;
        final Values values;
        final long[] changed;
        final int[] counts;
        int countedFor;

        Care(Nets closedNets, Values allValues) {
            nets = closedNets;
            values = allValues;
            changed = new long[MOST_LINES];
            counts = new int[MOST_LINES];
            countedFor = -1;
        }

        /** All lines in a word of choices, as they are if a line has this in place of its own. */
        private void change(int line, int w, long forced) {
            for (int i = 0; i < nets.lines; i++) {
                long told = values.heldWord(i, w);
                if (i == line) {
                    told = forced;
                } else if (i > line && nets.isGate(i)) {
                    long a = wordAt(changed, nets.oneOfPins(i));
                    long b = wordAt(changed, nets.twoOfPins(i));
                    told = oneOf(nets.kindOf(i), a, ~a, b, ~b) & values.every;
                }
                putWord(changed, i, told);
            }
        }

        private long changeOf(int line, int w) {
            return wordAt(changed, line) ^ values.heldWord(line, w);
        }

        /** Where an output of a net, or data of a cell of it, is other than it was. */
        private long changeOfNet(int net, int w) {
            long told = 0L;
            for (int index = 0; index < nets.outputsOf(net); index++) {
                told |= changeOf(nets.outputAt(net, index), w);
            }
            for (int source = nets.inputs; source < nets.sourceCount(); source++) {
                int cell = nets.sourceLine(source);
                if (nets.ownerOf(cell) == net) {
                    told |= changeOf(nets.dataOf(cell), w);
                }
            }
            return told;
        }

        int seenCount(int line) {
            if (countedFor != values.constraints) {
                Arrays.fill(counts, -1);
                countedFor = values.constraints;
            }
            if (numberAt(counts, line) >= 0) {
                return numberAt(counts, line);
            }
            int count = 0;
            for (int w = 0; w < values.words; w++) {
                change(line, w, ~values.heldWord(line, w) & values.every);
                long told = 0L;
                for (int net = 0; net < 2; net++) {
                    if (nets.fits(net, line)) {
                        told |= changeOfNet(net, w);
                    }
                }
                count += Long.bitCount(told & values.keptWord(w));
            }
            putNumber(counts, line, count);
            return count;
        }

        long seenSum() {
            long sum = 0L;
            for (int line = 0; line < nets.lines; line++) {
                sum += seenCount(line);
            }
            return sum;
        }

        /** The table of a patch, or -1 if there is none. */
        int patchTable(int line, int[] over, int count) {
            int ones = 0;
            int zeros = 0;
            for (int w = 0; w < values.words; w++) {
                long asked = values.keptWord(w) & ~unlikeCells(w);
                change(line, w, 0L);
                long badZeros = unlikeNets() & asked;
                change(line, w, values.every);
                long badOnes = unlikeNets() & asked;
                if ((badZeros & badOnes) != 0L) {
                    return -1;
                }
                ones |= combinations(badZeros, w, over, count);
                zeros |= combinations(badOnes, w, over, count);
            }
            return (ones & zeros) != 0 ? -1 : ones;
        }

        /** Where cells of the same name are unlike. */
        private long unlikeCells(int w) {
            long told = 0L;
            for (int source = nets.inputs; source < nets.sourceCount(); source++) {
                int cell = nets.sourceLine(source);
                int twin = nets.twinOf(cell);
                if (twin >= 0) {
                    told |= values.heldWord(cell, w) ^ values.heldWord(twin, w);
                }
            }
            return told;
        }

        /** Where outputs, or data of cells of the same name, are unlike after the change. */
        private long unlikeNets() {
            long told = 0L;
            for (int index = 0; index < nets.outputsOf(0); index++) {
                told |= wordAt(changed, nets.outputAt(0, index)) ^ wordAt(changed, nets.outputAt(1, index));
            }
            for (int source = nets.inputs; source < nets.sourceCount(); source++) {
                int cell = nets.sourceLine(source);
                int twin = nets.twinOf(cell);
                if (twin >= 0) {
                    told |= wordAt(changed, nets.dataOf(cell)) ^ wordAt(changed, nets.dataOf(twin));
                }
            }
            return told;
        }

        /** A bit for each values of the lines that some of these choices have. */
        private int combinations(long choices, int w, int[] over, int count) {
            int told = 0;
            for (int each = 0; each < 1 << count; each++) {
                long left = choices;
                for (int i = 0; i < count; i++) {
                    long word = values.heldWord(numberAt(over, i), w);
                    left &= (each >> i & 1) == 1 ? word : ~word;
                }
                if (left != 0L) {
                    told |= 1 << each;
                }
            }
            return told;
        }
    }

    /** Cells that correspond by induction; each knows the lowest cell of its class. */
    private static final class Registers {
        final Nets nets;
        final Values values;
        final int[] leaders;
        final int[] parted;
        int foundFor;

        Registers(Nets closedNets, Values allValues) {
            nets = closedNets;
            values = allValues;
            leaders = new int[MOST_LINES];
            parted = new int[MOST_LINES];
            foundFor = -1;
        }

        boolean areTogether(int cell, int other) {
            findClasses();
            return numberAt(leaders, cell) == numberAt(leaders, other);
        }

        int classCount() {
            findClasses();
            int count = 0;
            for (int source = nets.inputs; source < nets.sourceCount(); source++) {
                int cell = nets.sourceLine(source);
                count += numberAt(leaders, cell) == cell ? 1 : 0;
            }
            return count;
        }

        private void findClasses() {
            if (foundFor == values.constraints) {
                return;
            }
            foundFor = values.constraints;
            for (int source = nets.inputs; source < nets.sourceCount(); source++) {
                int cell = nets.sourceLine(source);
                putNumber(leaders, cell, lowestWithFirst(nets.firstOf(cell)));
            }
            // Each round parts a class, of which there are no more than cells.
            boolean isMoved = true;
            for (int round = 0; round <= 2 * MOST_CELLS && isMoved; round++) {
                findParted();
                isMoved = part();
            }
        }

        private int lowestWithFirst(int first) {
            for (int source = nets.inputs; source < nets.sourceCount(); source++) {
                int cell = nets.sourceLine(source);
                if (nets.firstOf(cell) == first) {
                    return cell;
                }
            }
            return -1;
        }

        /** Marks cells whose data are unlike those of their leader at choices that all classes allow. */
        private void findParted() {
            Arrays.fill(parted, 0);
            for (int w = 0; w < values.words; w++) {
                long asked = values.keptWord(w);
                for (int source = nets.inputs; source < nets.sourceCount(); source++) {
                    int cell = nets.sourceLine(source);
                    asked &= ~(values.heldWord(cell, w) ^ values.heldWord(numberAt(leaders, cell), w));
                }
                for (int source = nets.inputs; source < nets.sourceCount(); source++) {
                    int cell = nets.sourceLine(source);
                    long own = values.heldWord(nets.dataOf(cell), w);
                    long led = values.heldWord(nets.dataOf(numberAt(leaders, cell)), w);
                    if (((own ^ led) & asked) != 0L) {
                        putNumber(parted, cell, 1);
                    }
                }
            }
        }

        /** Marked cells of one class become a class, led by the lowest one of them. */
        private boolean part() {
            boolean isMoved = false;
            for (int source = nets.inputs; source < nets.sourceCount(); source++) {
                int cell = nets.sourceLine(source);
                int leader = numberAt(leaders, cell);
                if (numberAt(parted, cell) == 1) {
                    isMoved = true;
                    for (int later = source; later < nets.sourceCount(); later++) {
                        int other = nets.sourceLine(later);
                        if (numberAt(parted, other) == 1 && numberAt(leaders, other) == leader) {
                            putNumber(leaders, other, cell);
                            putNumber(parted, other, 0);
                        }
                    }
                }
            }
            return isMoved;
        }
    }

    /** States of all cells of both nets, and what is reached of them. */
    private static final class States {
        static final int UNLIKE = 256;
        final Nets nets;
        final Values values;
        final int inputs;
        final int stateCount;
        final int[] follow;
        final int[] queue;
        final int[] from;
        final int[] by;
        final int[] depths;
        final int[] traced;
        final int[] marks;
        final int[] nextMarks;
        boolean isFollowKnown;
        int searchedFor;
        int reachedCount;
        int differsAt;

        States(Nets closedNets, Values allValues) {
            nets = closedNets;
            values = allValues;
            inputs = Math.min(closedNets.inputs, allValues.sources);
            stateCount = 1 << Math.max(0, allValues.sources - closedNets.inputs);
            follow = new int[1 << allValues.sources];
            queue = new int[stateCount];
            from = new int[stateCount];
            by = new int[stateCount];
            depths = new int[stateCount];
            traced = new int[stateCount];
            marks = new int[stateCount];
            nextMarks = new int[stateCount];
            isFollowKnown = false;
            searchedFor = -1;
            reachedCount = 0;
            differsAt = -1;
        }

        private int firstState() {
            int state = 0;
            for (int source = inputs; source < values.sources; source++) {
                state |= nets.firstOf(nets.sourceLine(source)) << (source - inputs);
            }
            return state;
        }

        private int stateBehind(int choice) {
            int state = 0;
            for (int source = inputs; source < values.sources; source++) {
                int line = nets.dataOf(nets.sourceLine(source));
                state |= values.bitAtChoice(line, choice) << (source - inputs);
            }
            return state;
        }

        private int outputsAt(int net, int choice) {
            int told = 0;
            for (int index = 0; index < nets.outputsOf(net); index++) {
                told |= values.bitAtChoice(nets.outputAt(net, index), choice) << index;
            }
            return told;
        }

        /** The state that follows each choice, and whether outputs are unlike there. */
        private void fillFollow() {
            if (isFollowKnown) {
                return;
            }
            isFollowKnown = true;
            for (int choice = 0; choice < follow.length; choice++) {
                boolean isUnlike = outputsAt(0, choice) != outputsAt(1, choice);
                follow[choice] = stateBehind(choice) | (isUnlike ? UNLIKE : 0);
            }
        }

        private int stepFrom(int state, int chosen) {
            return numberAt(follow, state << inputs | chosen);
        }

        /**
         * States are met by rising steps and, of as many steps, by the least inputs: so the first one
         * that is found to differ has the trace that is told.
         */
        void search() {
            if (searchedFor == values.constraints) {
                return;
            }
            searchedFor = values.constraints;
            fillFollow();
            Arrays.fill(from, -1);
            reachedCount = 0;
            differsAt = -1;
            meet(firstState(), firstState(), 0, 0);
            for (int head = 0; head < reachedCount; head++) {
                expand(numberAt(queue, head));
            }
        }

        private void meet(int state, int before, int chosen, int depth) {
            putNumber(queue, reachedCount, state);
            putNumber(from, state, before);
            putNumber(by, state, chosen);
            putNumber(depths, state, depth);
            reachedCount++;
        }

        private void expand(int state) {
            int depth = numberAt(depths, state);
            for (int chosen = 0; chosen < 1 << inputs; chosen++) {
                if (values.areKeptInputs(chosen)) {
                    int step = stepFrom(state, chosen);
                    if ((step & UNLIKE) != 0 && differsAt < 0) {
                        differsAt = depth;
                        writeTrace(state, chosen);
                    }
                    int next = step & (UNLIKE - 1);
                    if (numberAt(from, next) < 0) {
                        meet(next, state, chosen, depth + 1);
                    }
                }
            }
        }

        private void writeTrace(int last, int chosen) {
            int state = last;
            putNumber(traced, differsAt, chosen);
            for (int step = differsAt - 1; step >= 0; step--) {
                putNumber(traced, step, numberAt(by, state));
                state = numberAt(from, state);
            }
        }

        int traceAt(int step) {
            return numberAt(traced, step);
        }

        boolean isProvedBy(int k) {
            search();
            if (differsAt >= 0 && differsAt < k) {
                return false;
            }
            Arrays.fill(marks, 1);
            for (int round = 0; round < k; round++) {
                stepAlike();
            }
            for (int state = 0; state < stateCount; state++) {
                if (numberAt(marks, state) == 1 && canDiffer(state)) {
                    return false;
                }
            }
            return true;
        }

        /** From the marked states to those that follow by a step with the same outputs. */
        private void stepAlike() {
            Arrays.fill(nextMarks, 0);
            for (int state = 0; state < stateCount; state++) {
                if (numberAt(marks, state) == 1) {
                    for (int chosen = 0; chosen < 1 << inputs; chosen++) {
                        int step = stepFrom(state, chosen);
                        if (values.areKeptInputs(chosen) && (step & UNLIKE) == 0) {
                            putNumber(nextMarks, step, 1);
                        }
                    }
                }
            }
            System.arraycopy(nextMarks, 0, marks, 0, stateCount);
        }

        private boolean canDiffer(int state) {
            for (int chosen = 0; chosen < 1 << inputs; chosen++) {
                if (values.areKeptInputs(chosen) && (stepFrom(state, chosen) & UNLIKE) != 0) {
                    return true;
                }
            }
            return false;
        }

        boolean isAlwaysOne(int line) {
            fillFollow();
            for (int state = 0; state < stateCount; state++) {
                putNumber(marks, state, isOneIn(line, state) ? 1 : 0);
            }
            if (numberAt(marks, firstState()) == 0) {
                return false;
            }
            for (int choice = 0; choice < follow.length; choice++) {
                boolean isAsked = values.areKeptInputs(choice & ((1 << inputs) - 1));
                int next = numberAt(follow, choice) & (UNLIKE - 1);
                if (isAsked && numberAt(marks, next) == 0 && values.bitAtChoice(line, choice) == 1) {
                    return false;
                }
            }
            return true;
        }

        private boolean isOneIn(int line, int state) {
            for (int chosen = 0; chosen < 1 << inputs; chosen++) {
                if (values.areKeptInputs(chosen) && values.bitAtChoice(line, state << inputs | chosen) == 0) {
                    return false;
                }
            }
            return true;
        }

        int outputsBehind(int net, int steps, int chosen) {
            int state = firstState();
            for (int step = 0; step < steps; step++) {
                state = stateBehind(state << inputs | chosen);
            }
            return outputsAt(net, state << inputs | chosen);
        }

        boolean isTraceRight() {
            int state = firstState();
            for (int step = 0; step < differsAt; step++) {
                state = stateBehind(state << inputs | traceAt(step));
            }
            int last = state << inputs | traceAt(differsAt);
            return differsAt < 0 || outputsAt(0, last) != outputsAt(1, last);
        }
    }

    /** What there is of nets that are closed. */
    private static final class Closed {
        final Nets nets;
        final Values values;
        final Ands ands;
        final Sweeping sweeping;
        final Diagrams diagrams;
        final Cuts cutsOfTwo;
        final Cuts cutsOfThree;
        final Cuts cutsOfFour;
        final Care care;
        final Registers registers;
        final States states;
        final long[] nodeWords;

        Closed(Nets closedNets) {
            nets = closedNets;
            values = new Values(closedNets);
            ands = new Ands(closedNets);
            sweeping = new Sweeping(closedNets, values);
            diagrams = new Diagrams(closedNets, values);
            cutsOfTwo = new Cuts(ands, 2);
            cutsOfThree = new Cuts(ands, 3);
            cutsOfFour = new Cuts(ands, 4);
            care = new Care(closedNets, values);
            registers = new Registers(closedNets, values);
            states = new States(closedNets, values);
            nodeWords = new long[MOST_NODES];
        }

        void fill() {
            values.fill();
            ands.fill();
        }

        Cuts cutsOf(int most) {
            return most == 2 ? cutsOfTwo : most == 3 ? cutsOfThree : cutsOfFour;
        }

        boolean holdsTogether() {
            states.search();
            // A word at a time is 64 choices; the first and the last word tell enough of the nodes.
            return areLinesLiterals(0) && areLinesLiterals(values.words - 1)
                    && sweeping.isRight() && states.isTraceRight();
        }

        private boolean areLinesLiterals(int w) {
            for (int node = 0; node < ands.nodes; node++) {
                long told = 0L;
                if (ands.isAnd(node)) {
                    told = literalWord(ands.lesserPin(node)) & literalWord(ands.greaterPin(node));
                } else if (node > 0) {
                    told = values.heldWord(nets.sourceLine(node - 1), w);
                }
                putWord(nodeWords, node, told);
            }
            for (int line = 0; line < nets.lines; line++) {
                long told = literalWord(ands.literalOf(line)) & values.every;
                if (told != values.heldWord(line, w)) {
                    return false;
                }
            }
            return true;
        }

        private long literalWord(int literal) {
            long told = wordAt(nodeWords, literal >> 1);
            return (literal & 1) == 1 ? ~told : told;
        }
    }
}
