import java.util.List;

/** The edges of promises 1 to 9: an empty house, and all of which nets are made. */
final class NetEdges extends Edges {
    private static final String KINDS = "aoxnrbv";

    private NetEdges() {
    }

    static void run() {
        emptyHouse();
        inputs();
        cellNumbers();
        cellRefusals();
        gateKinds();
        gateLines();
        gateRefusals();
        data();
        outputs();
        closing();
        constraints();
        constraintRefusals();
        values();
    }

    private static void emptyHouse() {
        sentence("Promise 1: a house with two empty nets, no lines");
        due(0, new Miterhouse().lines());
        due(0, new Miterhouse().input());
        due(0, new Miterhouse().cell(0, 0, 0));
        due(0, new Miterhouse().cell(1, 1, 9));
        sentence("Promise 1: two polynomials that are 0");
        Miterhouse x = new Miterhouse();
        for (int at = 0; at < 32; at++) {
            due(0, x.coefficient(at / 16, at / 4 % 4, at % 4, at + 1));
        }
        for (int bits = 1; bits <= 6; bits++) {
            due(true, new Miterhouse().areSame(bits));
            due(0, new Miterhouse().word(0, bits, 3, -5));
            due(0, new Miterhouse().word(1, bits, Integer.MIN_VALUE, Integer.MAX_VALUE));
        }
        sentence("Promise 1: no patterns");
        due(0, new Miterhouse().patterns());
        due(0L, new Miterhouse().mergeProofs());
        sentence("Promise 1: two houses share nothing");
        Miterhouse one = Houses.patterned(3);
        one.coefficient(0, 0, 0, 7);
        due(Telling.of(new Miterhouse()), Telling.of(new Miterhouse()));
        due(3, one.patterns());
        due(0, new Miterhouse().word(0, 6, 0, 0));
        emptyHouseRefuses();
    }

    /** What each method answers without a line, and without closed nets. */
    private static void emptyHouseRefuses() {
        sentence("an empty house: no such line");
        List<Asking> ofLines = List.of(x -> x.gate(0, 'a', 0, 0), x -> x.gate(1, 'v', 0, 0), x -> x.data(0, 0),
                x -> x.output(0, 0), x -> x.output(1, 0), x -> x.constrain(0), x -> x.value(0, 0), x -> x.literal(0),
                x -> x.signature(0), x -> x.candidates(0), x -> x.prove(0, 0, false, 1), x -> x.proof(0, 0, false),
                x -> x.witness(0, 0, true), x -> x.merged(0), x -> x.diagram(0, 1), x -> x.cuts(0, 2),
                x -> x.cutAt(0, 2, 0, 0), x -> x.table(0, 2, 0), x -> x.seen(0), x -> x.isIdle(0),
                x -> x.patch(0, 0, -1, -1, -1), x -> x.correspond(0, 0, true), x -> x.isInvariant(0));
        for (Asking call : ofLines) {
            refused(INDEX, Miterhouse::new, call);
        }
        sentence("an empty house: the nets are not closed, and cannot be");
        List<Asking> ofClosed = List.of(Miterhouse::close, Miterhouse::ands, x -> x.pin(0, true), x -> x.pattern(0),
                x -> x.sweep(1), x -> x.order(0, 0), x -> x.placeOf(0), Miterhouse::allDiagrams, Miterhouse::sift,
                Miterhouse::cellClasses, Miterhouse::reached, Miterhouse::difference, x -> x.trace(0),
                x -> x.isInductive(0), x -> x.run(0, 0, 0), x -> x.run(1, 30, 0), Miterhouse::meanSeen);
        for (Asking call : ofClosed) {
            refused(CANNOT, Miterhouse::new, call);
        }
        sentence("an empty house: no sources told yet, so there is one choice, 0");
        beyond(RANGE, Miterhouse::new, 0, 0, (x, choice) -> x.pattern(choice));
        beyond(RANGE, Miterhouse::new, 0, 0, (x, choice) -> x.run(0, 0, choice));
        sentence("an empty house: there are no lines to share");
        refused(NOTHING, Miterhouse::new, Miterhouse::mergedShare);
        sentence("an empty house: isSound is true");
        due(true, new Miterhouse().isSound());
    }

    private static void inputs() {
        sentence("Promise 2: returns the number of the line");
        due(0, Houses.inputs(0).input());
        due(3, Houses.lines(3).input());
        sentence("Promise 2: the 6th input fills the place, the 7th finds it full");
        due(5, Houses.inputs(5).input());
        refused(FULL, () -> Houses.inputs(6), Miterhouse::input);
        sentence("Promise 2: inputs are full, other lines are not");
        due(6, Houses.inputs(6).gate(0, 'a', 0, 1));
        due(6, Houses.inputs(6).cell(1, 0, 0));
        sentence("Promise 2: the input that is the 80th line, and the one behind it");
        due(79, Houses.lines(79).input());
        refused(FULL, () -> Houses.lines(80), Miterhouse::input);
        sentence("Promise 2: the nets are closed");
        refused(CANNOT, Houses::small, Miterhouse::input);
        sentence("Promise 2: closed, and 6 inputs or 80 lines: closed is told");
        refused(CANNOT, () -> Houses.closed(Houses.inputs(6)), Miterhouse::input);
        refused(CANNOT, () -> Houses.closed(Houses.lines(80)), Miterhouse::input);
    }

    private static void cellNumbers() {
        sentence("Promise 3: the net is 0 or 1");
        limits(RANGE, () -> Houses.inputs(2), 0, 2, 1, 2, (x, net) -> x.cell(net, 0, 0));
        sentence("Promise 3: the first value is 0 or 1");
        limits(RANGE, () -> Houses.inputs(2), 0, 2, 1, 2, (x, first) -> x.cell(0, first, 0));
        for (int first = 0; first < 2; first++) {
            Miterhouse x = Houses.inputs(1);
            x.cell(0, first, 0);
            x.data(1, 0);
            due(first, Houses.closed(x, 1, 0).run(0, 0, 1 - first));
        }
        sentence("Promise 3: the name is 0 to 9");
        limits(RANGE, () -> Houses.inputs(2), 0, 2, 9, 2, (x, name) -> x.cell(1, 0, name));
        for (int name = 0; name < 10; name++) {
            int given = name;
            due(2, Houses.inputs(2).cell(0, 1, given));
            refused(CANNOT, () -> named(given), x -> x.cell(0, 0, given));
        }
        sentence("Promise 3: the 4th cell of a net fills the place, the 5th finds it full");
        for (int net = 0; net < 2; net++) {
            int n = net;
            due(5, Houses.cells(n).lines());
            refused(FULL, () -> Houses.cells(n), x -> x.cell(n, 0, 4));
            due(5, Houses.cells(n).cell(1 - n, 0, 4));
        }
        sentence("Promise 3: 4 cells of each net");
        due(14, Houses.wide().lines());
        refused(FULL, Houses::wide, x -> x.cell(0, 0, 9));
        refused(FULL, Houses::wide, x -> x.cell(1, 0, 9));
        sentence("Promise 3: the cell that is the 80th line, and the one behind it");
        due(79, Houses.lines(79).cell(0, 0, 0));
        refused(FULL, () -> Houses.lines(80), x -> x.cell(0, 0, 0));
    }

    private static Miterhouse named(int name) {
        Miterhouse x = new Miterhouse();
        x.cell(0, 0, name);
        return x;
    }

    private static void cellRefusals() {
        sentence("Promise 3: a cell of the net has this name, and not of the other net");
        refused(CANNOT, Houses::open, x -> x.cell(0, 0, 9));
        refused(CANNOT, Houses::open, x -> x.cell(1, 1, 9));
        due(1, named(5).cell(1, 0, 5));
        due(1, named(5).cell(0, 0, 4));
        sentence("Promise 3: the nets are closed");
        refused(CANNOT, Houses::small, x -> x.cell(0, 0, 0));
        sentence("Promise 3: a number is out of range, and closed, the name there, or full: the range is told");
        refused(RANGE, Houses::small, x -> x.cell(2, 0, 0));
        refused(RANGE, Houses::small, x -> x.cell(0, 0, 10));
        refused(RANGE, Houses::open, x -> x.cell(0, 2, 9));
        refused(RANGE, () -> Houses.cells(0), x -> x.cell(0, -1, 4));
        refused(RANGE, () -> Houses.lines(80), x -> x.cell(0, 0, -1));
        sentence("Promise 3: closed, or the name there, and full: that it cannot be is told");
        refused(CANNOT, () -> Houses.cells(0), x -> x.cell(0, 0, 3));
        refused(CANNOT, NetEdges::fullWithCell, x -> x.cell(0, 0, 7));
        refused(CANNOT, () -> Houses.closed(Houses.lines(80)), x -> x.cell(0, 0, 0));
        refused(CANNOT, () -> Houses.closed(Houses.wide()), x -> x.cell(0, 0, 9));
        refused(FULL, NetEdges::fullWithCell, x -> x.cell(1, 0, 7));
    }

    private static Miterhouse fullWithCell() {
        Miterhouse x = Houses.lines(79);
        x.cell(0, 0, 7);
        return x;
    }

    private static void gateKinds() {
        sentence("Promise 4: the net is 0 or 1");
        limits(RANGE, () -> Houses.inputs(2), 0, 2, 1, 2, (x, net) -> x.gate(net, 'a', 0, 1));
        limits(RANGE, () -> Houses.inputs(2), 0, 2, 1, 2, (x, net) -> x.gate(net, 'v', 0, 1));
        sentence("Promise 4: the kind is a, o, x, n, r, b or v");
        Miterhouse x = null;
        for (int sign = 0; sign < 65536; sign++) {
            if (sign % 400 == 0) {
                x = Houses.inputs(2);
            }
            char kind = (char) sign;
            boolean isKind = KINDS.indexOf(kind) >= 0;
            due(isKind ? (Object) x.lines() : RANGE, answer(x, y -> y.gate(1, kind, 0, 1)));
        }
        for (char kind : new char[] {0, 'A', 'V', 'c', 'i', 'm', 'p', 'u', 'w', 'y', (char) ('a' + 256), 65535}) {
            refused(RANGE, Houses::open, y -> y.gate(0, kind, 0, 1));
        }
    }

    private static void gateLines() {
        sentence("Promise 4: the line of the first pin, of lower numbers");
        for (char kind : KINDS.toCharArray()) {
            limits(INDEX, () -> Houses.lines(3), 0, 3, 2, 3, (x, one) -> x.gate(0, kind, one, 0));
        }
        sentence("Promise 4: the line of the second pin, of lower numbers");
        for (char kind : "aoxnr".toCharArray()) {
            limits(INDEX, () -> Houses.lines(3), 0, 3, 2, 3, (x, two) -> x.gate(0, kind, 0, two));
        }
        sentence("Promise 4: the second pin is of no meaning for b and v");
        for (char kind : new char[] {'b', 'v'}) {
            for (int two : new int[] {Integer.MIN_VALUE, -1, 0, 1, 2, 3, 4, Integer.MAX_VALUE}) {
                Miterhouse x = Houses.lines(3);
                due(3, x.gate(0, kind, 2, two));
                due(kind == 'b' ? 1 : 0, Houses.closed(x, 3, 0).value(3, 1));
            }
        }
        sentence("Promise 4: a line is of the other net, by either pin");
        for (char kind : KINDS.toCharArray()) {
            refused(CANNOT, Houses::open, x -> x.gate(0, kind, 5, 0));
            refused(CANNOT, Houses::open, x -> x.gate(1, kind, 4, 0));
            refused(CANNOT, Houses::open, x -> x.gate(0, kind, 3, 0));
            refused(CANNOT, Houses::open, x -> x.gate(1, kind, 2, 0));
        }
        for (char kind : "aoxnr".toCharArray()) {
            refused(CANNOT, Houses::open, x -> x.gate(0, kind, 0, 5));
            refused(CANNOT, Houses::open, x -> x.gate(1, kind, 0, 4));
            refused(CANNOT, Houses::open, x -> x.gate(0, kind, 2, 3));
            refused(CANNOT, Houses::open, x -> x.gate(1, kind, 3, 2));
        }
        sentence("Promise 4: lines that are inputs or of this net, cells before their data too");
        due(10, Houses.open().gate(0, 'a', 4, 2));
        due(10, Houses.open().gate(1, 'x', 3, 1));
        due(5, Houses.cells(0).gate(0, 'a', 1, 4));
    }

    private static void gateRefusals() {
        sentence("Promise 4: the gate that is the 80th line, and the one behind it");
        for (char kind : KINDS.toCharArray()) {
            due(79, Houses.lines(79).gate(0, kind, 78, 0));
            refused(FULL, () -> Houses.lines(80), x -> x.gate(0, kind, 78, 0));
        }
        sentence("Promise 4: the nets are closed");
        refused(CANNOT, Houses::small, x -> x.gate(0, 'a', 0, 1));
        sentence("Promise 4: no such net or kind, and no such line, closed, of the other net, or full: the first is told");
        refused(RANGE, Houses::open, x -> x.gate(2, 'a', 10, 0));
        refused(RANGE, Houses::open, x -> x.gate(0, 'c', 0, -1));
        refused(RANGE, Houses::small, x -> x.gate(-1, 'a', 0, 0));
        refused(RANGE, Houses::open, x -> x.gate(0, 'z', 5, 0));
        refused(RANGE, () -> Houses.lines(80), x -> x.gate(0, 'z', 0, 0));
        sentence("Promise 4: no such line, and closed, of the other net, or full: no such line is told");
        refused(INDEX, Houses::small, x -> x.gate(0, 'a', 0, 10));
        refused(INDEX, Houses::small, x -> x.gate(0, 'v', 10, 0));
        refused(INDEX, Houses::open, x -> x.gate(0, 'a', 5, 10));
        refused(INDEX, Houses::open, x -> x.gate(0, 'a', -1, 5));
        refused(INDEX, () -> Houses.lines(80), x -> x.gate(0, 'a', 80, 0));
        sentence("Promise 4: closed, or of the other net, and full: that it cannot be is told");
        refused(CANNOT, () -> Houses.closed(Houses.lines(80)), x -> x.gate(0, 'a', 0, 0));
        refused(CANNOT, () -> Houses.lines(80), x -> x.gate(0, 'a', 1, 0));
        refused(CANNOT, () -> Houses.lines(80), x -> x.gate(1, 'a', 0, 2));
    }

    private static void data() {
        sentence("Promise 5: the line of the cell");
        beyond(INDEX, Houses::open, 0, 9, (x, cell) -> x.data(cell, 0));
        due(-1, named(0).data(0, 0));
        due(-1, Houses.cells(0).data(4, 0));
        sentence("Promise 5: the line that it takes");
        limits(INDEX, Houses::open, 0, 5, 9, 5, (x, line) -> x.data(3, line));
        sentence("Promise 5: returns the line before, or -1");
        Miterhouse x = Houses.cells(1);
        due(-1, x.data(1, 0));
        due(0, x.data(1, 4));
        due(4, x.data(1, 1));
        due(1, x.data(1, 1));
        due(-1, x.data(2, 1));
        sentence("Promise 5: it is the last line told that the cell takes");
        Miterhouse y = Houses.open();
        y.data(2, 8);
        due(4, Houses.small().reached());
        due(2, Houses.closed(y, 2, 0).reached());
        sentence("Promise 5: the first one is no cell");
        refused(CANNOT, Houses::open, z -> z.data(0, 0));
        refused(CANNOT, Houses::open, z -> z.data(4, 0));
        refused(CANNOT, Houses::open, z -> z.data(5, 0));
        sentence("Promise 5: the other one is of the other net");
        refused(CANNOT, Houses::open, z -> z.data(2, 5));
        refused(CANNOT, Houses::open, z -> z.data(2, 3));
        refused(CANNOT, Houses::open, z -> z.data(3, 4));
        refused(CANNOT, Houses::open, z -> z.data(3, 2));
        sentence("Promise 5: the nets are closed");
        refused(CANNOT, Houses::small, z -> z.data(2, 0));
        sentence("Promise 5: no such line, and closed, no cell, or of the other net: no such line is told");
        refused(INDEX, Houses::small, z -> z.data(2, 10));
        refused(INDEX, Houses::small, z -> z.data(-1, 0));
        refused(INDEX, Houses::open, z -> z.data(4, 10));
        refused(INDEX, Houses::open, z -> z.data(10, 5));
    }

    private static void outputs() {
        sentence("Promise 6: the net is 0 or 1");
        limits(RANGE, () -> Houses.inputs(2), 0, 0, 1, 0, (x, net) -> x.output(net, 1));
        sentence("Promise 6: the number of the line");
        limits(INDEX, () -> Houses.lines(3), 0, 0, 2, 0, (x, line) -> x.output(0, line));
        sentence("Promise 6: the 4th output fills the place, the 5th finds it full");
        for (int net = 0; net < 2; net++) {
            int n = net;
            Miterhouse x = Houses.inputs(1);
            for (int k = 0; k < 4; k++) {
                due(k, x.output(n, 0));
            }
            due(FULL, answer(x, y -> y.output(n, 0)));
            refused(FULL, () -> withOutputs(n, 4), y -> y.output(n, 0));
            due(0, withOutputs(n, 4).output(1 - n, 0));
        }
        sentence("Promise 6: the line is of the other net");
        refused(CANNOT, Houses::open, x -> x.output(0, 5));
        refused(CANNOT, Houses::open, x -> x.output(0, 3));
        refused(CANNOT, Houses::open, x -> x.output(1, 4));
        refused(CANNOT, Houses::open, x -> x.output(1, 2));
        due(0, Houses.open().output(1, 3));
        sentence("Promise 6: the nets are closed");
        refused(CANNOT, Houses::small, x -> x.output(0, 0));
        sentence("Promise 6: no such net, and no such line, closed, of the other net, or full: no such net is told");
        refused(RANGE, Houses::open, x -> x.output(2, 10));
        refused(RANGE, Houses::small, x -> x.output(-1, 0));
        refused(RANGE, () -> withOutputs(1, 4), x -> x.output(2, 0));
        sentence("Promise 6: no such line, and closed, or full: no such line is told");
        refused(INDEX, Houses::small, x -> x.output(0, 10));
        refused(INDEX, () -> withOutputs(0, 4), x -> x.output(0, -1));
        sentence("Promise 6: closed, or of the other net, and full: that it cannot be is told");
        refused(CANNOT, Houses::largest, x -> x.output(0, 0));
        refused(CANNOT, () -> withOutputs(0, 4), x -> x.output(0, 1));
        refused(CANNOT, () -> withOutputs(1, 4), x -> x.output(1, 2));
    }

    /** Two lines and one of each net, and so many outputs of one net. */
    private static Miterhouse withOutputs(int net, int count) {
        Miterhouse x = Houses.lines(3);
        for (int k = 0; k < count; k++) {
            x.output(net, 0);
        }
        return x;
    }

    private static void closing() {
        sentence("Promise 7: returns the number of sources, 1 to 14");
        due(1, closing(Houses.inputs(1)));
        due(6, closing(Houses.inputs(6)));
        due(14, closing(Houses.wide()));
        due(1, closing(Houses.lines(80)));
        Miterhouse apart = named(0);
        apart.data(0, 0);
        apart.cell(1, 0, 0);
        apart.data(1, 1);
        apart.output(0, 0);
        apart.output(1, 1);
        due(2, apart.close());
        sentence("Promise 7: as many outputs, at least one, at most four");
        for (int one = 0; one <= 4; one++) {
            for (int other = 0; other <= 4; other++) {
                int a = one;
                int b = other;
                Maker maker = () -> withBoth(a, b);
                if (one == other && one > 0) {
                    due(1, maker.make().close());
                } else {
                    refused(CANNOT, maker, Miterhouse::close);
                }
            }
        }
        sentence("Promise 7: each cell has data");
        for (int untold = -1; untold < 8; untold++) {
            int left = untold;
            if (untold < 0) {
                due(9, withoutData(left).close());
            } else {
                refused(CANNOT, () -> withoutData(left), Miterhouse::close);
            }
        }
        sentence("Promise 7: they are closed");
        refused(CANNOT, Houses::small, Miterhouse::close);
        refused(CANNOT, Houses::largest, Miterhouse::close);
        sentence("Promise 7: nets that could not be closed can be, once what is missing is told");
        Miterhouse x = withBoth(0, 1);
        due(CANNOT, answer(x, Miterhouse::close));
        due(0, x.output(0, 2));
        due(1, x.close());
        due(3, x.lines());
    }

    private static int closing(Miterhouse x) {
        x.output(0, 0);
        x.output(1, 0);
        return x.close();
    }

    private static Miterhouse withBoth(int one, int other) {
        Miterhouse x = withOutputs(0, one);
        for (int k = 0; k < other; k++) {
            x.output(1, 0);
        }
        return x;
    }

    /** An input and eight cells, of which one has no data. */
    private static Miterhouse withoutData(int untold) {
        Miterhouse x = new Miterhouse();
        for (int k = 0; k < 8; k++) {
            x.cell(k % 2, 0, k);
        }
        x.input();
        for (int k = 0; k < 8; k++) {
            if (k != untold) {
                x.data(k, 8);
            }
        }
        x.output(0, 8);
        x.output(1, 8);
        return x;
    }

    private static void constraints() {
        sentence("Promise 8: the number of the line");
        beyond(INDEX, Houses::small, 0, 9, (x, line) -> x.constrain(line));
        due(8, Houses.small().constrain(0));
        due(12, Houses.small().constrain(9));
        sentence("Promise 8: returns how many choices keep all, of all sources");
        Miterhouse x = Houses.small();
        due(12, x.constrain(9));
        due(4, x.constrain(0));
        due(4, x.constrain(7));
        due(4, x.constrain(8));
        due(32, Houses.closed(Houses.inputs(6)).constrain(5));
        due(1 << 13, Houses.closed(Houses.wide()).constrain(5));
        sentence("Promise 8: a constraint that all choices keep");
        due(16, Houses.small().constrain(8));
        sentence("Promise 8: just one choice keeps all");
        due(1, Houses.closed(Houses.inputs(1)).constrain(0));
        sentence("Promise 8: the 4th constraint fills the place, the 5th finds it full");
        due(8, constrained(3).constrain(0));
        for (int line : new int[] {0, 7, 8}) {
            refused(FULL, () -> constrained(4), y -> y.constrain(line));
        }
        sentence("Promise 8: all that is told of all choices is of those that keep them");
        Miterhouse z = Houses.small();
        z.constrain(0);
        due(2, z.run(0, 0, 1) + 1);
        due(RANGE, answer(z, y -> y.run(0, 0, 0)));
        due(0, z.value(0, 0));
        due('e', z.prove(0, 8, false, 20000));
        sentence("Promise 8: what was asked before is told anew, with each constraint up to the 4th");
        for (int count = 1; count <= 4; count++) {
            Miterhouse asked = narrowed();
            Miterhouse spared = narrowed();
            for (int line = 0; line < count; line++) {
                askAll(asked);
                asked.constrain(line);
                spared.constrain(line);
            }
            due(Telling.of(spared), Telling.of(asked));
        }
    }

    private static void askAll(Miterhouse x) {
        x.meanSeen();
        x.cellClasses();
        x.reached();
        x.trace(x.difference());
        x.isInductive(2);
        x.isSound();
        answer(x, y -> y.patch(14, 13, 0, -1, -1));
        for (int line = 0; line < x.lines(); line++) {
            x.isInvariant(line);
            x.prove(line, 0, false, 20000);
            x.diagram(line, 9999);
        }
    }

    /** Cells that take the inputs, so that each input that is always 1 changes classes, states and the trace. */
    private static Miterhouse narrowed() {
        Miterhouse x = Houses.wide();
        for (int k = 0; k < 6; k++) {
            x.data(6 + k, k);
        }
        x.data(13, x.gate(1, 'a', 13, 0));
        return Houses.closed(x, 4, 5);
    }

    /** The small house with so many constraints, all the input 0. */
    private static Miterhouse constrained(int count) {
        Miterhouse x = Houses.small();
        for (int k = 0; k < count; k++) {
            x.constrain(0);
        }
        return x;
    }

    private static void constraintRefusals() {
        sentence("Promise 8: the nets are not closed");
        refused(CANNOT, Houses::open, x -> x.constrain(0));
        refused(CANNOT, Houses::open, x -> x.constrain(2));
        sentence("Promise 8: the line depends on a cell, or is one");
        for (int line : new int[] {2, 3, 4, 5}) {
            refused(CANNOT, Houses::small, x -> x.constrain(line));
        }
        refused(CANNOT, NetEdges::behindCell, x -> x.constrain(3));
        refused(CANNOT, NetEdges::behindCell, x -> x.constrain(4));
        due(2, behindCell().constrain(0));
        sentence("Promise 8: no choice would keep all");
        refused(CANNOT, Houses::small, x -> x.constrain(6));
        refused(CANNOT, NetEdges::turned, x -> x.constrain(1));
        sentence("Promise 8: no such line, and not closed, or full: no such line is told");
        refused(INDEX, Houses::open, x -> x.constrain(10));
        refused(INDEX, () -> constrained(4), x -> x.constrain(-1));
        sentence("Promise 8: on a cell, or none kept, and full: that it cannot be is told");
        refused(CANNOT, () -> constrained(4), x -> x.constrain(2));
        refused(CANNOT, () -> constrained(4), x -> x.constrain(5));
        refused(CANNOT, () -> constrained(4), x -> x.constrain(6));
    }

    /** The cell 1 takes the input; 2 is it, 3 is 2 turned over, 4 is the input or 3. */
    private static Miterhouse behindCell() {
        Miterhouse x = Houses.inputs(1);
        x.cell(0, 0, 0);
        x.data(1, 0);
        x.gate(0, 'b', 1, 0);
        x.gate(0, 'v', 2, 0);
        x.gate(0, 'o', 0, 3);
        return Houses.closed(x);
    }

    /** The input 0 is a constraint, the line 1 it turned over. */
    private static Miterhouse turned() {
        Miterhouse x = Houses.inputs(1);
        x.gate(1, 'v', 0, 0);
        Houses.closed(x).constrain(0);
        return x;
    }

    private static void values() {
        sentence("Promise 9: the number of the line");
        limits(INDEX, Houses::small, 0, 1, 9, 0, (x, line) -> x.value(line, 15));
        sentence("Promise 9: the choice, 0 to less than 2 to the power of the sources");
        limits(RANGE, () -> Houses.closed(Houses.inputs(1)), 0, 0, 1, 1, (x, choice) -> x.value(0, choice));
        limits(RANGE, () -> Houses.closed(Houses.inputs(6)), 0, 0, 63, 1, (x, choice) -> x.value(5, choice));
        limits(RANGE, Houses::small, 0, 0, 15, 1, (x, choice) -> x.value(3, choice));
        limits(RANGE, () -> Houses.closed(Houses.wide()), 0, 0, 16383, 1, (x, choice) -> x.value(13, choice));
        sentence("Promise 9: a choice is a sum of 2 to the power of the sources that are 1");
        Miterhouse wide = Houses.closed(Houses.wide());
        for (int source = 0; source < 14; source++) {
            due(1, wide.value(source, 1 << source));
            due(0, wide.value(source, 16383 - (1 << source)));
        }
        sentence("Promise 9: sources are inputs, then cells, each by rising lines");
        Miterhouse x = named(3);
        x.input();
        x.cell(1, 0, 2);
        x.input();
        x.data(0, 1);
        x.data(2, 1);
        Houses.closed(x, 1, 1);
        int[] sources = {2, 0, 3, 1};
        for (int line = 0; line < 4; line++) {
            due(1, x.value(line, 1 << sources[line]));
            due(0, x.value(line, 15 - (1 << sources[line])));
        }
        sentence("Promise 9: a choice that keeps no constraint has values too");
        due(0, constrained(4).value(0, 14));
        due(1, constrained(4).value(5, 14));
        sentence("Promise 9: the nets are not closed");
        refused(CANNOT, Houses::open, y -> y.value(0, 0));
        sentence("Promise 9: no such line, and no such choice, or not closed: no such line is told");
        refused(INDEX, Houses::small, y -> y.value(10, 16));
        refused(INDEX, Houses::open, y -> y.value(-1, 0));
        sentence("Promise 9: no such choice, and not closed: no such choice is told");
        refused(RANGE, Houses::open, y -> y.value(0, 16));
        refused(RANGE, Houses::open, y -> y.value(0, -1));
        refused(RANGE, Houses::open, y -> y.value(0, Integer.MAX_VALUE));
    }
}
