/** The edges of promises 35 to 37, and 48: where a line is seen, and patches. */
final class CareEdges extends Edges {
    private CareEdges() {
    }

    static void run() {
        seen();
        idle();
        meanSeen();
        patchLines();
        patchNone();
        patchRefusals();
        patchTables();
    }

    private static void seen() {
        sentence("Promise 35: the number of the line");
        limits(INDEX, Houses::small, 0, 8, 9, 0, (x, line) -> x.seen(line));
        sentence("Promise 35: at how many choices, from none to all");
        int[] small = {8, 8, 8, 8, 16, 16, 0, 0, 0, 0};
        for (int line = 0; line < 10; line++) {
            due(small[line], Houses.small().seen(line));
        }
        Miterhouse wide = Houses.closed(Houses.wide());
        due(16384, wide.seen(0));
        due(0, wide.seen(5));
        due(16384, wide.seen(6));
        due(16384, wide.seen(13));
        due(2, Houses.closed(Houses.inputs(1)).seen(0));
        sentence("Promise 35: inputs as lines of both nets");
        Miterhouse both = Houses.inputs(2);
        due(4, Houses.closed(both, 0, 1).seen(0));
        due(4, both.seen(1));
        sentence("Promise 35: just choices that keep all constraints, told as they were");
        Miterhouse x = Houses.small();
        x.constrain(0);
        due(4, x.seen(0));
        due(4, x.seen(1));
        due(8, x.seen(2));
        due(8, x.seen(5));
        x.constrain(1);
        due(2, x.seen(0));
        due(0, x.seen(3));
        sentence("Promise 35: the nets are not closed");
        refused(CANNOT, Houses::open, y -> y.seen(0));
        sentence("Promise 35: no such line, and not closed: no such line is told");
        refused(INDEX, Houses::open, y -> y.seen(10));
    }

    private static void idle() {
        sentence("Promise 36: the number of the line");
        limits(INDEX, Houses::small, 0, false, 9, true, (x, line) -> x.isIdle(line));
        sentence("Promise 36: it is seen at none, not at one");
        Miterhouse x = Houses.inputs(6);
        int all = 0;
        for (int line = 1; line < 6; line++) {
            all = x.gate(0, 'a', all, line);
        }
        int idle = x.gate(0, 'o', 0, 1);
        Houses.closed(x, all, x.gate(1, 'b', 0, 0));
        due(2, x.seen(5));
        due(false, x.isIdle(5));
        due(true, x.isIdle(idle));
        x.constrain(idle);
        due(true, x.isIdle(idle));
        sentence("Promise 36: no choice that keeps all constraints sees it");
        Miterhouse y = Houses.small();
        due(false, y.isIdle(3));
        y.constrain(1);
        due(true, y.isIdle(3));
        due(false, y.isIdle(5));
        sentence("Promise 36: the nets are not closed");
        refused(CANNOT, Houses::open, z -> z.isIdle(0));
        sentence("Promise 36: no such line, and not closed: no such line is told");
        refused(INDEX, Houses::open, z -> z.isIdle(-1));
    }

    private static void meanSeen() {
        sentence("Promise 48: the sum divided by the number of lines");
        due(64.0 / 10.0, Houses.small().meanSeen());
        due(2.0, Houses.closed(Houses.inputs(1)).meanSeen());
        due(9.0 * 16384.0 / 14.0, Houses.closed(Houses.wide()).meanSeen());
        due((2.0 + 2.0) / 80.0, Houses.closed(Houses.lines(80), 2, 0).meanSeen());
        sentence("Promise 48: with constraints");
        Miterhouse x = Houses.small();
        x.constrain(0);
        due((4 + 4 + 8 + 4 + 8 + 8) / 10.0, x.meanSeen());
        sentence("Promise 48: the nets are not closed");
        refused(CANNOT, Houses::open, Miterhouse::meanSeen);
        sentence("Promise 48: there are no lines, and the nets are not closed: not closed is told");
        refused(CANNOT, Miterhouse::new, Miterhouse::meanSeen);
    }

    /**
     * Inputs 0, 1; 2 is unlike of both in the net 0; of the net 1: 3 and, 4 or, 5 of 3 and 4,
     * 6 the input 0 turned over.
     */
    private static Miterhouse patchable() {
        Miterhouse x = Houses.inputs(2);
        x.gate(0, 'x', 0, 1);
        x.gate(1, 'a', 0, 1);
        x.gate(1, 'o', 0, 1);
        x.gate(1, 'a', 3, 4);
        x.gate(1, 'v', 0, 0);
        return x;
    }

    private static Miterhouse patchableClosed() {
        return Houses.closed(patchable(), 2, 5);
    }

    private static void patchLines() {
        Maker maker = CareEdges::patchableClosed;
        sentence("Promise 37: the number of the line");
        beyond(INDEX, maker, 0, 6, (x, line) -> x.patch(line, 0, 1, -1, -1));
        due(6, patchableClosed().patch(3, 0, 1, -1, -1));
        refused(NONE, maker, x -> x.patch(6, 0, 1, -1, -1));
        sentence("Promise 37: one is a line, and not -1");
        limits(INDEX, maker, 0, 6, 6, 9, (x, one) -> x.patch(3, one, 1, -1, -1));
        refused(INDEX, maker, x -> x.patch(3, -1, -1, -1, -1));
        sentence("Promise 37: two is a line, or -1");
        limits(INDEX, maker, -1, NONE, 6, 9, (x, two) -> x.patch(3, 1, two, -1, -1));
        due(6, patchableClosed().patch(3, 1, 0, -1, -1));
        sentence("Promise 37: three is a line, or -1");
        limits(INDEX, maker, -1, 6, 6, 2 + 64, (x, three) -> x.patch(3, 0, 1, three, -1));
        due(8 + 64, patchableClosed().patch(3, 0, 4, 1, -1));
        sentence("Promise 37: four is a line, or -1");
        limits(INDEX, maker, -1, 32 + 64, 6, 32 + 16384, (x, four) -> x.patch(3, 0, 1, 4, four));
    }

    private static void patchNone() {
        sentence("Promise 37: -1 for none from here on, whatever stands behind it");
        for (int junk : new int[] {Integer.MIN_VALUE, -2, -1, 0, 2, 3, 5, 6, 7, Integer.MAX_VALUE}) {
            for (int other : new int[] {junk, -1, 99, 0}) {
                due(3, constantPatch().patch(2, 0, -1, junk, other));
            }
            due(6, constantPatch().patch(2, 0, 4, -1, junk));
        }
        sentence("Promise 37: the table for one to four lines, the greatest");
        due(3, freePatch().patch(7, 0, -1, -1, -1));
        due(15, freePatch().patch(7, 0, 1, -1, -1));
        due(255, freePatch().patch(7, 0, 1, 2, -1));
        due(65535, freePatch().patch(7, 0, 1, 2, 3));
        sentence("Promise 37: where nothing wants either, it has 0");
        due(0, Houses.closed(Houses.lines(2)).patch(1, 0, -1, -1, -1));
        due(1, constantPatch().patch(2, 5, -1, -1, -1));
        due(2, constantPatch().patch(2, 6, -1, -1, -1));
        due(2 + 4, constantPatch().patch(2, 0, 4, -1, -1));
        due(1 + 8, constantPatch().patch(2, 0, 3, -1, -1));
        sentence("Promise 37: some choice can have neither, so there is none");
        refused(NONE, CareEdges::freePatch, x -> x.patch(8, 0, 1, 2, 3));
    }

    /** An input; the net 0's output is 1; of the net 1: 2 its output, 3 none, 4 turned, 5 has 0, 6 has 1. */
    private static Miterhouse constantPatch() {
        Miterhouse x = Houses.inputs(1);
        x.gate(0, 'b', 0, 0);
        x.gate(1, 'b', 0, 0);
        x.gate(1, 'b', 0, 0);
        x.gate(1, 'v', 0, 0);
        x.gate(1, 'x', 0, 0);
        x.gate(1, 'v', 5, 0);
        x.gate(0, 'o', 0, x.gate(0, 'v', 0, 0));
        return Houses.closed(x, 8, 2);
    }

    /** Four inputs; the net 0's output 6 is 1; of the net 1: 7 is the output, 8 is not seen. */
    private static Miterhouse freePatch() {
        Miterhouse x = Houses.inputs(4);
        x.gate(0, 'v', 0, 0);
        x.gate(0, 'x', 0, 0);
        x.gate(0, 'v', 5, 0);
        x.gate(1, 'x', 0, 0);
        x.gate(1, 'a', 0, 1);
        x.output(0, 6);
        x.output(1, 7);
        x.close();
        return x;
    }

    private static void patchRefusals() {
        Maker maker = CareEdges::patchableClosed;
        sentence("Promise 37: the line is not of the net 1");
        refused(RANGE, maker, x -> x.patch(2, 0, 1, -1, -1));
        refused(RANGE, maker, x -> x.patch(0, 1, -1, -1, -1));
        refused(RANGE, Houses::small, x -> x.patch(2, 0, -1, -1, -1));
        sentence("Promise 37: one is of the net 0, at each place");
        refused(RANGE, maker, x -> x.patch(3, 2, -1, -1, -1));
        refused(RANGE, maker, x -> x.patch(3, 0, 2, -1, -1));
        refused(RANGE, maker, x -> x.patch(3, 0, 1, 2, -1));
        refused(RANGE, maker, x -> x.patch(3, 0, 1, 4, 2));
        refused(RANGE, Houses::small, x -> x.patch(5, 2, -1, -1, -1));
        sentence("Promise 37: one is twice there, at each two places");
        refused(RANGE, maker, x -> x.patch(3, 0, 0, -1, -1));
        refused(RANGE, maker, x -> x.patch(3, 0, 1, 0, -1));
        refused(RANGE, maker, x -> x.patch(3, 1, 0, 0, -1));
        refused(RANGE, maker, x -> x.patch(3, 0, 1, 4, 0));
        refused(RANGE, maker, x -> x.patch(3, 0, 1, 4, 1));
        refused(RANGE, maker, x -> x.patch(3, 0, 1, 4, 4));
        sentence("Promise 37: one depends on the line, or is it, at each place");
        for (int line : new int[] {3, 5}) {
            refused(RANGE, maker, x -> x.patch(3, line, -1, -1, -1));
            refused(RANGE, maker, x -> x.patch(3, 0, line, -1, -1));
            refused(RANGE, maker, x -> x.patch(3, 0, 1, line, -1));
            refused(RANGE, maker, x -> x.patch(3, 0, 1, 4, line));
        }
        due(4, patchableClosed().patch(5, 3, 4, -1, -1));
        sentence("Promise 37: the nets are not closed");
        refused(CANNOT, CareEdges::patchable, x -> x.patch(3, 0, 1, -1, -1));
        refused(CANNOT, CareEdges::patchable, x -> x.patch(3, 0, -1, -1, -1));
        sentence("Promise 37: there is none");
        refused(NONE, maker, x -> x.patch(3, 0, -1, -1, -1));
        refused(NONE, maker, x -> x.patch(4, 0, 1, -1, -1));
        patchPairs(maker);
    }

    private static void patchPairs(Maker maker) {
        sentence("Promise 37: no such line, and lines that do not go, not closed, or none: no such line is told");
        refused(INDEX, maker, x -> x.patch(2, 7, -1, -1, -1));
        refused(INDEX, maker, x -> x.patch(2, 0, 1, 7, -1));
        refused(INDEX, maker, x -> x.patch(3, 2, 2, 2, 7));
        refused(INDEX, maker, x -> x.patch(7, 2, -1, -1, -1));
        refused(INDEX, CareEdges::patchable, x -> x.patch(3, 0, 7, -1, -1));
        refused(INDEX, maker, x -> x.patch(3, 0, -2, -1, -1));
        sentence("Promise 37: lines that do not go, and not closed, or none: the lines are told");
        refused(RANGE, CareEdges::patchable, x -> x.patch(2, 0, 1, -1, -1));
        refused(RANGE, CareEdges::patchable, x -> x.patch(3, 2, -1, -1, -1));
        refused(RANGE, CareEdges::patchable, x -> x.patch(3, 0, 0, -1, -1));
        refused(RANGE, CareEdges::patchable, x -> x.patch(3, 5, -1, -1, -1));
        refused(RANGE, maker, x -> x.patch(6, 0, 2, -1, -1));
        refused(RANGE, maker, x -> x.patch(4, 0, 0, -1, -1));
    }

    private static void patchTables() {
        sentence("Promise 37: the first line is the lowest bit of a choice");
        due(6, patchableClosed().patch(3, 0, 1, -1, -1));
        due(9, patchableClosed().patch(3, 6, 1, -1, -1));
        due(32 + 64, patchableClosed().patch(3, 0, 1, 4, -1));
        due(8 + 64, patchableClosed().patch(3, 0, 4, 1, -1));
        sentence("Promise 37: a cell by its value, not its data");
        Miterhouse x = Houses.inputs(1);
        x.cell(0, 0, 4);
        x.cell(1, 0, 4);
        x.data(1, 0);
        x.data(2, 0);
        x.gate(1, 'a', 0, 2);
        Houses.closed(x, 0, 3);
        due(2, x.patch(2, 0, -1, -1, -1));
        sentence("Promise 37: at choices at which cells of the same names are the same");
        due(6, cellPatch(4).patch(3, 0, 2, -1, -1));
        refused(NONE, () -> cellPatch(5), y -> y.patch(3, 0, 2, -1, -1));
        due(8, Houses.small().patch(5, 0, 3, -1, -1));
        sentence("Promise 37: at choices that keep all constraints");
        Miterhouse z = patchableClosed();
        z.constrain(0);
        due(1, z.patch(3, 1, -1, -1, -1));
        due(4, z.patch(3, 6, 1, -1, -1) + 3);
    }

    /** The net 0's output is unlike of the input and its cell; the net 1's is 3, the input and its cell. */
    private static Miterhouse cellPatch(int name) {
        Miterhouse x = Houses.inputs(1);
        x.cell(0, 0, 4);
        x.cell(1, 0, name);
        x.gate(1, 'a', 0, 2);
        x.gate(0, 'x', 0, 1);
        x.data(1, 0);
        x.data(2, 0);
        return Houses.closed(x, 4, 3);
    }
}
