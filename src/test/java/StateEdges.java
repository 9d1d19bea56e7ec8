/** The edges of promises 38 to 47, and 49: registers, states, induction, and numbers of all lines. */
final class StateEdges extends Edges {
    private StateEdges() {
    }

    static void run() {
        correspondence();
        classes();
        reached();
        differences();
        traces();
        induction();
        invariants();
        runNumbers();
        runRefusals();
        lines();
        soundness();
    }

    private static void correspondence() {
        for (boolean isByName : new boolean[] {true, false}) {
            sentence("Promise 38: the line of a cell, by names " + isByName);
            beyond(INDEX, Houses::small, 0, 9, (x, cell) -> x.correspond(cell, 2, isByName));
            sentence("Promise 38: the line of another one, by names " + isByName);
            beyond(INDEX, Houses::small, 0, 9, (x, other) -> x.correspond(2, other, isByName));
            sentence("Promise 38: one is no cell, by names " + isByName);
            for (int line : new int[] {0, 1, 4, 5, 6, 9}) {
                refused(CANNOT, Houses::small, x -> x.correspond(line, 2, isByName));
                refused(CANNOT, Houses::small, x -> x.correspond(3, line, isByName));
                refused(CANNOT, Houses::small, x -> x.correspond(line, line, isByName));
            }
            sentence("Promise 38: the nets are not closed, by names " + isByName);
            refused(CANNOT, Houses::open, x -> x.correspond(2, 3, isByName));
            sentence("Promise 38: no such line, and not closed, or no cell: no such line is told, by names " + isByName);
            refused(INDEX, Houses::open, x -> x.correspond(2, 10, isByName));
            refused(INDEX, Houses::small, x -> x.correspond(0, 10, isByName));
            refused(INDEX, Houses::small, x -> x.correspond(-1, 0, isByName));
        }
        sentence("Promise 38: by names, first values aside");
        due(true, Houses.small().correspond(2, 3, true));
        due(true, Houses.small().correspond(3, 2, true));
        sentence("Promise 38: by induction, names aside; unlike first values never correspond");
        due(false, Houses.small().correspond(2, 3, false));
        Miterhouse wide = Houses.closed(Houses.wide());
        due(true, wide.correspond(6, 13, false) && wide.correspond(13, 6, false));
        due(false, wide.correspond(6, 13, true) || wide.correspond(13, 6, true));
    }

    private static void classes() {
        sentence("Promise 39: no cells, no classes");
        due(0, Houses.pairs().cellClasses());
        sentence("Promise 39: one cell, one class; two first values, two classes");
        due(1, held(1).cellClasses());
        due(2, Houses.small().cellClasses());
        sentence("Promise 39: all cells in one class, and each in its own");
        Miterhouse wide = Houses.closed(Houses.wide());
        due(1, wide.cellClasses());
        due(8, apart().cellClasses());
        for (int cell = 6; cell < 14; cell++) {
            for (int other = 6; other < 14; other++) {
                due(cell == other, apart().correspond(cell, other, false));
            }
        }
        sentence("Promise 39: at choices that keep all constraints");
        Miterhouse x = apart();
        for (int input = 0; input < 4; input++) {
            x.constrain(input);
        }
        due(4, x.cellClasses());
        sentence("Promise 39: the nets are not closed");
        refused(CANNOT, Houses::open, Miterhouse::cellClasses);
    }

    /** A cell of the net 0 with this first value that keeps it, and an input; both are outputs. */
    private static Miterhouse held(int first) {
        Miterhouse x = new Miterhouse();
        x.cell(0, first, 0);
        x.input();
        x.data(0, 0);
        return Houses.closed(x, 0, 1);
    }

    /** Six inputs; eight cells, of which each takes another line: an input, itself, or it and an input. */
    private static Miterhouse apart() {
        Miterhouse x = Houses.wide();
        for (int k = 0; k < 6; k++) {
            x.data(6 + k, k);
        }
        x.data(13, x.gate(1, 'a', 13, 0));
        return Houses.closed(x);
    }

    /** Inputs 0 and 1 go through four cells of the net 0 and of the net 1, whose last ones are outputs. */
    private static Miterhouse pipes(int inputs) {
        Miterhouse x = Houses.inputs(inputs);
        for (int k = 0; k < 8; k++) {
            int cell = x.cell(k / 4, 0, k % 4);
            x.data(cell, k % 4 == 0 ? k / 4 % inputs : cell - 1);
        }
        return Houses.closed(x, inputs + 3, inputs + 7);
    }

    /** Four cells of the net 0 count by themselves; the input does nothing; 8 is the count of 15. */
    private static Miterhouse counter() {
        Miterhouse x = Houses.cells(0);
        x.data(1, x.gate(0, 'v', 1, 0));
        int carry = 1;
        for (int cell = 2; cell < 5; cell++) {
            x.data(cell, x.gate(0, 'x', cell, carry));
            carry = x.gate(0, 'a', cell, carry);
        }
        return Houses.closed(x, carry, x.gate(1, 'x', 0, 0));
    }

    private static void reached() {
        sentence("Promise 40: from the first state alone to all of them");
        due(1, Houses.pairs().reached());
        due(1, held(0).reached());
        due(1, held(1).reached());
        due(1, Houses.closed(Houses.wide()).reached());
        due(16, pipes(1).reached());
        due(256, pipes(2).reached());
        due(16, counter().reached());
        sentence("Promise 40: just inputs that keep constraints are chosen");
        Miterhouse x = pipes(2);
        x.constrain(0);
        due(1 + 2 + 4 + 8 + 16, x.reached());
        x.constrain(1);
        due(5, x.reached());
        sentence("Promise 40: the nets are not closed");
        refused(CANNOT, Houses::open, Miterhouse::reached);
    }

    private static void differences() {
        sentence("Promise 41: -1 if they do the same");
        due(-1, Houses.pairs().difference());
        due(-1, pipes(1).difference());
        due(-1, Houses.closed(Houses.wide()).difference());
        sentence("Promise 41: the number of the first step, from 0");
        due(0, Houses.closed(Houses.inputs(2), 0, 1).difference());
        due(0, held(1).difference());
        due(4, pipes(2).difference());
        due(15, counter().difference());
        sentence("Promise 41: unlike outputs that no choice of constraints shows are none");
        Miterhouse x = Houses.closed(Houses.inputs(2), 0, 1);
        x.constrain(0);
        due(0, x.difference());
        x.constrain(1);
        due(-1, x.difference());
        sentence("Promise 41: the nets are not closed");
        refused(CANNOT, Houses::open, Miterhouse::difference);
    }

    private static void traces() {
        sentence("Promise 42: the step, from 0 to the one with unlike outputs");
        limits(NONE, () -> Houses.closed(Houses.inputs(2), 0, 1), 0, 1, 0, 1, (x, step) -> x.trace(step));
        limits(NONE, StateEdges::counter, 0, 0, 15, 0, (x, step) -> x.trace(step));
        limits(NONE, () -> pipes(2), 0, 1, 4, 0, (x, step) -> x.trace(step));
        sentence("Promise 42: they do the same, at whatever step");
        beyond(NONE, Houses::pairs, 0, 0, (x, step) -> x.trace(step));
        refused(NONE, Houses::pairs, x -> x.trace(0));
        refused(NONE, () -> pipes(1), x -> x.trace(4));
        sentence("Promise 42: the least inputs that keep constraints");
        Miterhouse x = Houses.closed(Houses.inputs(6), 0, 5);
        due(1, x.trace(0));
        x.constrain(5);
        due(32, x.trace(0));
        x.constrain(4);
        due(48, x.trace(0));
        x.constrain(0);
        due(NONE, answer(x, y -> y.trace(0)));
        Miterhouse most = Houses.inputs(6);
        int all = 0;
        for (int line = 1; line < 6; line++) {
            all = most.gate(0, 'a', all, line);
        }
        int none = most.gate(1, 'x', 0, 0);
        due(63, Houses.closed(most, all, none).trace(0));
        sentence("Promise 42: the nets are not closed, and no such step: not closed is told");
        refused(CANNOT, Houses::open, y -> y.trace(0));
        refused(CANNOT, Houses::open, y -> y.trace(-1));
        refused(CANNOT, Houses::open, y -> y.trace(Integer.MAX_VALUE));
    }

    private static void induction() {
        sentence("Promise 43: k, 0 to 20");
        limits(RANGE, Houses::pairs, 0, true, 20, true, (x, k) -> x.isInductive(k));
        limits(RANGE, () -> pipes(1), 0, false, 20, true, (x, k) -> x.isInductive(k));
        limits(RANGE, StateEdges::counter, 0, false, 20, false, (x, k) -> x.isInductive(k));
        sentence("Promise 43: after as many steps, and one less");
        for (int k = 0; k <= 20; k++) {
            due(k >= 4, pipes(1).isInductive(k));
            due(false, pipes(2).isInductive(k));
        }
        sentence("Promise 43: no difference in the first k steps, k itself not among them");
        due(false, late(1).isInductive(1));
        due(true, late(0).isInductive(1));
        due(false, late(1).isInductive(0));
        sentence("Promise 43: the nets are not closed");
        refused(CANNOT, Houses::open, x -> x.isInductive(0));
        refused(CANNOT, Houses::open, x -> x.isInductive(20));
        sentence("Promise 43: out of range, and not closed: the range is told");
        refused(RANGE, Houses::open, x -> x.isInductive(-1));
        refused(RANGE, Houses::open, x -> x.isInductive(21));
    }

    /** Both nets take the input through a cell, of the first values 0 and this one. */
    private static Miterhouse late(int first) {
        Miterhouse x = Houses.inputs(1);
        x.cell(0, 0, 0);
        x.cell(1, first, 0);
        x.data(1, 0);
        x.data(2, 0);
        return Houses.closed(x, 1, 2);
    }

    private static void invariants() {
        sentence("Promise 44: the number of the line");
        limits(INDEX, Houses::small, 0, false, 9, false, (x, line) -> x.isInvariant(line));
        sentence("Promise 44: it is 1 at all choices with the first state");
        due(true, held(1).isInvariant(0));
        due(false, held(0).isInvariant(0));
        due(true, Houses.small().isInvariant(8));
        due(false, Houses.small().isInvariant(6));
        sentence("Promise 44: it is 1 with the state that follows");
        due(false, Houses.small().isInvariant(2));
        sentence("Promise 44: the state behind the first choice alone, or the last one alone, tells");
        for (int first = 0; first < 2; first++) {
            Miterhouse z = Houses.inputs(1);
            z.cell(0, first, 0);
            z.data(1, z.gate(0, 'v', 0, 0));
            z.gate(0, first == 0 ? 'v' : 'b', 1, 0);
            due(false, Houses.closed(z).isInvariant(3));
        }
        sentence("Promise 44: just choices that keep constraints are asked");
        Miterhouse x = Houses.small();
        x.constrain(0);
        due(true, x.isInvariant(0));
        due(true, x.isInvariant(2));
        due(false, x.isInvariant(3));
        sentence("Promise 44: the nets are not closed");
        refused(CANNOT, Houses::open, y -> y.isInvariant(0));
        sentence("Promise 44: no such line, and not closed: no such line is told");
        refused(INDEX, Houses::open, y -> y.isInvariant(10));
        refused(INDEX, Houses::open, y -> y.isInvariant(-1));
    }

    private static void runNumbers() {
        sentence("Promise 45: the net is 0 or 1");
        limits(RANGE, Houses::pairs, 0, 1, 1, 1, (x, net) -> x.run(net, 0, 3));
        limits(RANGE, () -> held(1), 0, 1, 1, 0, (x, net) -> x.run(net, 0, 0));
        sentence("Promise 45: the steps, 0 to 30");
        limits(RANGE, Houses::pairs, 0, 1, 30, 1, (x, steps) -> x.run(0, steps, 3));
        Miterhouse x = counter();
        for (int steps = 0; steps <= 30; steps++) {
            due(steps == 15 ? 1 : 0, x.run(0, steps, steps % 2));
        }
        sentence("Promise 45: the choice of inputs, of all of them and of no cells");
        limits(RANGE, StateEdges::withoutInputs, 0, 1, 0, 1, (y, inputs) -> y.run(0, 0, inputs));
        limits(RANGE, Houses::small, 0, 0, 3, 1, (y, inputs) -> y.run(0, 0, inputs));
        limits(RANGE, () -> Houses.closed(Houses.wide(), 5, 5), 0, 0, 63, 1, (y, inputs) -> y.run(0, 30, inputs));
        limits(RANGE, () -> Houses.closed(Houses.inputs(1)), 0, 0, 1, 1, (y, inputs) -> y.run(1, 30, inputs));
        sentence("Promise 45: the sum of 2 to the power of outputs that are 1");
        Miterhouse y = Houses.inputs(4);
        for (int k = 0; k < 4; k++) {
            y.output(0, k);
            y.output(1, 3 - k);
        }
        y.close();
        for (int inputs = 0; inputs < 16; inputs++) {
            due(inputs, y.run(0, 0, inputs));
            due(Integer.reverse(inputs) >>> 28, y.run(1, 7, inputs));
        }
    }

    /** Two cells alone, each of which keeps its 1. */
    private static Miterhouse withoutInputs() {
        Miterhouse x = new Miterhouse();
        for (int net = 0; net < 2; net++) {
            x.cell(net, 1, 0);
            x.data(net, net);
        }
        return Houses.closed(x, 0, 1);
    }

    private static void runRefusals() {
        sentence("Promise 45: they do not keep all constraints");
        refused(RANGE, StateEdges::constrained, x -> x.run(0, 0, 0));
        refused(RANGE, StateEdges::constrained, x -> x.run(1, 30, 2));
        due(1, constrained().run(0, 0, 3));
        refused(RANGE, () -> sixConstrained(), x -> x.run(0, 0, 31));
        refused(RANGE, () -> sixConstrained(), x -> x.run(0, 0, 0));
        due(1, sixConstrained().run(0, 0, 63));
        sentence("Promise 45: several numbers are out of range, or not kept");
        refused(RANGE, StateEdges::constrained, x -> x.run(2, 31, 4));
        refused(RANGE, StateEdges::constrained, x -> x.run(0, -1, 0));
        sentence("Promise 45: the nets are not closed");
        refused(CANNOT, Houses::open, x -> x.run(0, 0, 0));
        refused(CANNOT, Houses::open, x -> x.run(1, 30, 0));
        sentence("Promise 45: a number is out of range, and not closed: the range is told");
        refused(RANGE, Houses::open, x -> x.run(2, 0, 0));
        refused(RANGE, Houses::open, x -> x.run(0, 31, 0));
        refused(RANGE, Houses::open, x -> x.run(0, -1, 0));
        refused(RANGE, Houses::open, x -> x.run(0, 0, -1));
        refused(RANGE, Houses::open, x -> x.run(0, 0, 64));
    }

    private static Miterhouse constrained() {
        Miterhouse x = Houses.pairs();
        x.constrain(0);
        return x;
    }

    private static Miterhouse sixConstrained() {
        Miterhouse x = Houses.closed(Houses.inputs(6));
        x.constrain(5);
        return x;
    }

    private static void lines() {
        sentence("Promise 46: the number of lines, 0 to 80");
        for (int count = 1; count <= 80; count++) {
            due(count, Houses.lines(count).lines());
        }
        due(0, new Miterhouse().lines());
        due(80, Houses.largest().lines());
        sentence("Promise 46: data, outputs and closing add none");
        due(10, Houses.open().lines());
        due(10, Houses.small().lines());
        sentence("Promise 47: there are none");
        refused(NOTHING, Miterhouse::new, Miterhouse::mergedShare);
        sentence("Promise 47: nothing is merged, closed or not");
        due(0f, Houses.inputs(1).mergedShare());
        due(0f, Houses.open().mergedShare());
        due(0f, Houses.small().mergedShare());
        sentence("Promise 47: their number divided by that of all");
        Miterhouse x = Houses.patterned(3);
        x.sweep(3);
        due(2f / 7f, x.mergedShare());
    }

    private static void soundness() {
        sentence("Promise 49: true if the nets are not closed");
        due(true, new Miterhouse().isSound());
        due(true, Houses.open().isSound());
        due(true, Houses.lines(80).isSound());
        sentence("Promise 49: with and without merges, a difference, constraints, and all lines");
        due(true, Houses.small().isSound());
        due(true, counter().isSound());
        due(true, pipes(2).isSound());
        Miterhouse x = Houses.patterned(64);
        x.sweep(20000);
        x.constrain(1);
        due(true, x.isSound());
        Miterhouse y = Houses.largest();
        y.sweep(20000);
        due(true, y.isSound());
    }
}
