/** The edges of promises 23 to 31: the order of sources, diagrams, cuts and tables. */
final class DiagramEdges extends Edges {
    private DiagramEdges() {
    }

    static void run() {
        order();
        places();
        diagrams();
        allDiagrams();
        sifting();
        cuts();
        cutNodes();
        cutNodeRefusals();
        tables();
        normalForms();
    }

    private static Miterhouse tower() {
        return Houses.closed(Houses.tower(), 6, 0);
    }

    private static void order() {
        sentence("Promise 23: the number of the source");
        limits(RANGE, Houses::small, 0, 0, 3, 3, (x, source) -> x.order(source, 1));
        limits(RANGE, () -> Houses.closed(Houses.wide()), 0, 0, 13, 13, (x, source) -> x.order(source, 5));
        limits(RANGE, () -> Houses.closed(Houses.inputs(1)), 0, 0, 0, 0, (x, source) -> x.order(source, 0));
        sentence("Promise 23: the place, from 0");
        limits(RANGE, Houses::small, 0, 1, 3, 1, (x, place) -> x.order(1, place));
        limits(RANGE, () -> Houses.closed(Houses.wide()), 0, 5, 13, 5, (x, place) -> x.order(5, place));
        limits(RANGE, () -> Houses.closed(Houses.inputs(1)), 0, 0, 0, 0, (x, place) -> x.order(0, place));
        sentence("Promise 23: no such source, and no such place");
        refused(RANGE, Houses::small, x -> x.order(4, 4));
        sentence("Promise 23: from the first place to the last one, and back");
        Miterhouse x = Houses.small();
        due(0, x.order(0, 3));
        duePlaces(x, 3, 0, 1, 2);
        due(3, x.order(0, 0));
        duePlaces(x, 0, 1, 2, 3);
        due(3, x.order(3, 0));
        duePlaces(x, 1, 2, 3, 0);
        sentence("Promise 23: to the place where it is");
        for (int source = 0; source < 4; source++) {
            int at = x.placeOf(source);
            due(at, x.order(source, at));
        }
        duePlaces(x, 1, 2, 3, 0);
        sentence("Promise 23: returns its place before");
        due(1, x.order(0, 2));
        due(2, x.order(0, 2));
        duePlaces(x, 2, 1, 3, 0);
        sentence("Promise 23: the nets are not closed, and no such source or place: not closed is told");
        refused(CANNOT, Houses::open, y -> y.order(0, 0));
        refused(CANNOT, Houses::open, y -> y.order(4, 0));
        refused(CANNOT, Houses::open, y -> y.order(0, -1));
        refused(CANNOT, Houses::open, y -> y.order(Integer.MIN_VALUE, Integer.MAX_VALUE));
    }

    private static void duePlaces(Miterhouse x, int... places) {
        for (int source = 0; source < places.length; source++) {
            due(places[source], x.placeOf(source));
        }
    }

    private static void places() {
        sentence("Promise 24: the number of the source, by rising numbers at first");
        limits(RANGE, Houses::small, 0, 0, 3, 3, (x, source) -> x.placeOf(source));
        limits(RANGE, () -> Houses.closed(Houses.wide()), 0, 0, 13, 13, (x, source) -> x.placeOf(source));
        limits(RANGE, () -> Houses.closed(Houses.inputs(1)), 0, 0, 0, 0, (x, source) -> x.placeOf(source));
        sentence("Promise 24: the nets are not closed, and no such source: not closed is told");
        refused(CANNOT, Houses::open, x -> x.placeOf(0));
        refused(CANNOT, Houses::open, x -> x.placeOf(4));
        refused(CANNOT, Houses::open, x -> x.placeOf(-1));
    }

    private static void diagrams() {
        sentence("Promise 25: the number of the line");
        limits(INDEX, Houses::small, 0, 1, 9, 2, (x, line) -> x.diagram(line, 9));
        sentence("Promise 25: the limit, 1 to 9999");
        limits(RANGE, Houses::small, 1, 1, 9999, 1, (x, limit) -> x.diagram(0, limit));
        limits(RANGE, Houses::small, 1, -1, 9999, 2, (x, limit) -> x.diagram(9, limit));
        sentence("Promise 25: -1 if it is more than the limit, not at as much");
        Miterhouse x = Houses.inputs(6);
        int sum = 0;
        for (int line = 1; line < 6; line++) {
            sum = x.gate(0, 'x', sum, line);
        }
        Houses.closed(x);
        due(-1, x.diagram(sum, 10));
        due(11, x.diagram(sum, 11));
        due(11, x.diagram(sum, 12));
        due(-1, x.diagram(6, 2));
        due(3, x.diagram(6, 3));
        sentence("Promise 25: the two ends are not counted, and a constant is one");
        due(0, Houses.small().diagram(6, 1));
        due(0, Houses.small().diagram(8, 1));
        sentence("Promise 25: constraints aside");
        Miterhouse y = Houses.small();
        y.constrain(0);
        due(1, y.diagram(0, 1));
        due(2, y.diagram(9, 2));
        sentence("Promise 25: the nets are not closed");
        refused(CANNOT, Houses::open, z -> z.diagram(0, 1));
        sentence("Promise 25: no such line, and the limit out of range, or not closed: no such line is told");
        refused(INDEX, Houses::small, z -> z.diagram(10, 0));
        refused(INDEX, Houses::open, z -> z.diagram(-1, 1));
        sentence("Promise 25: the limit out of range, and not closed: the limit is told");
        refused(RANGE, Houses::open, z -> z.diagram(0, 0));
        refused(RANGE, Houses::open, z -> z.diagram(0, 10000));
    }

    private static void allDiagrams() {
        sentence("Promise 26: the size of all, from 0, of all outputs of both nets");
        Miterhouse constants = Houses.inputs(1);
        constants.gate(0, 'x', 0, 0);
        constants.gate(1, 'v', constants.gate(1, 'x', 0, 0), 0);
        due(0, Houses.closed(constants, 1, 3).allDiagrams());
        due(4, Houses.small().allDiagrams());
        due(1, Houses.closed(Houses.inputs(1)).allDiagrams());
        sentence("Promise 26: the 4th output of each net counts");
        Miterhouse x = Houses.inputs(6);
        for (int line = 0; line < 4; line++) {
            x.output(0, Math.min(line, 2));
            x.output(1, line == 3 ? 5 : 0);
        }
        x.close();
        due(4, x.allDiagrams());
        Miterhouse y = Houses.inputs(6);
        for (int line = 0; line < 4; line++) {
            y.output(0, line == 3 ? 5 : 0);
            y.output(1, 0);
        }
        y.close();
        due(2, y.allDiagrams());
        sentence("Promise 26: the nets are not closed");
        refused(CANNOT, Houses::open, Miterhouse::allDiagrams);
    }

    private static void sifting() {
        sentence("Promise 27: one source stays");
        Miterhouse x = Houses.closed(Houses.inputs(1));
        due(1, x.sift());
        due(0, x.placeOf(0));
        sentence("Promise 27: of several places the first one, also without a gain");
        Miterhouse y = Houses.closed(Houses.inputs(3));
        due(1, y.sift());
        duePlaces(y, 2, 1, 0);
        due(1, y.sift());
        duePlaces(y, 2, 1, 0);
        sentence("Promise 27: each source is taken once, by rising numbers: sifting again may still gain");
        Miterhouse once = Houses.inputs(4);
        once.gate(0, 'r', 3, 2);
        once.gate(0, 'x', 1, 4);
        once.gate(0, 'r', 0, 3);
        once.gate(0, 'o', 0, once.gate(0, 'v', 5, 5));
        once.output(0, 6);
        once.output(1, 0);
        Houses.closed(once, 8, 0);
        due(8, once.allDiagrams());
        due(8, once.sift());
        duePlaces(once, 0, 3, 2, 1);
        due(7, once.sift());
        duePlaces(once, 3, 2, 1, 0);
        sentence("Promise 27: all the sources that there can be");
        Miterhouse z = Houses.closed(Houses.wide());
        due(1, z.sift());
        for (int source = 0; source < 14; source++) {
            due(13 - source, z.placeOf(source));
        }
        sentence("Promise 27: returns the size of all then");
        Miterhouse w = Houses.largest();
        due(w.sift(), w.allDiagrams());
        sentence("Promise 27: the nets are not closed");
        refused(CANNOT, Houses::open, Miterhouse::sift);
    }

    private static void cuts() {
        sentence("Promise 28: the number of the line");
        beyond(INDEX, DiagramEdges::tower, 0, 9, (x, line) -> x.cuts(line, 2));
        due(1, tower().cuts(0, 2));
        due(2, tower().cuts(7, 2));
        sentence("Promise 28: at most so many nodes, 2 to 4");
        limits(RANGE, DiagramEdges::tower, 2, 2, 4, 5, (x, most) -> x.cuts(6, most));
        limits(RANGE, DiagramEdges::tower, 2, 1, 4, 1, (x, most) -> x.cuts(3, most));
        due(4, tower().cuts(6, 3));
        sentence("Promise 28: its node is 0, straight or inverted");
        refused(CANNOT, DiagramEdges::tower, x -> x.cuts(8, 2));
        refused(CANNOT, DiagramEdges::tower, x -> x.cuts(9, 4));
        sentence("Promise 28: the nets are not closed");
        refused(CANNOT, Houses::tower, x -> x.cuts(0, 2));
        sentence("Promise 28: no such line, and out of range, or not closed: no such line is told");
        refused(INDEX, DiagramEdges::tower, x -> x.cuts(10, 5));
        refused(INDEX, Houses::tower, x -> x.cuts(-1, 2));
        sentence("Promise 28: out of range, and not closed, or the node 0: the range is told");
        refused(RANGE, Houses::tower, x -> x.cuts(0, 1));
        refused(RANGE, DiagramEdges::tower, x -> x.cuts(8, 5));
        sentence("Promise 28: the most nodes that there can be");
        Miterhouse x = Houses.inputs(2);
        for (int line = 2; line < 80; line++) {
            x.gate(0, 'x', line - 1, line % 2);
        }
        Houses.closed(x);
        due(236, x.cutAt(79, 4, 0, 0));
        due(1, x.cutAt(79, 2, 1, 0));
        due(2, x.cutAt(79, 2, 1, 1));
    }

    private static void cutNodes() {
        sentence("Promise 29: the number of the line");
        beyond(INDEX, DiagramEdges::tower, 0, 9, (x, line) -> x.cutAt(line, 2, 0, 0));
        due(1, tower().cutAt(0, 2, 0, 0));
        due(7, tower().cutAt(7, 2, 0, 0));
        sentence("Promise 29: at most so many nodes, 2 to 4");
        limits(RANGE, DiagramEdges::tower, 2, 5, 4, 5, (x, most) -> x.cutAt(6, most, 1, 0));
        sentence("Promise 29: the number of the cut, from 0");
        limits(NONE, DiagramEdges::tower, 0, 7, 1, 5, (x, cut) -> x.cutAt(6, 2, cut, 0));
        limits(NONE, DiagramEdges::tower, 0, 7, 3, 3, (x, cut) -> x.cutAt(6, 3, cut, 0));
        limits(NONE, DiagramEdges::tower, 0, 7, 4, 1, (x, cut) -> x.cutAt(6, 4, cut, 0));
        limits(NONE, DiagramEdges::tower, 0, 4, 0, 4, (x, cut) -> x.cutAt(3, 4, cut, 0));
        sentence("Promise 29: the index, from 0");
        limits(NONE, DiagramEdges::tower, 0, 7, 0, 7, (x, index) -> x.cutAt(6, 4, 0, index));
        limits(NONE, DiagramEdges::tower, 0, 5, 1, 6, (x, index) -> x.cutAt(6, 4, 1, index));
        limits(NONE, DiagramEdges::tower, 0, 1, 2, 6, (x, index) -> x.cutAt(6, 4, 2, index));
        limits(NONE, DiagramEdges::tower, 0, 1, 3, 4, (x, index) -> x.cutAt(6, 4, 4, index));
        sentence("Promise 29: no such cut, and no such node");
        refused(NONE, DiagramEdges::tower, x -> x.cutAt(6, 4, 5, 4));
        refused(NONE, DiagramEdges::tower, x -> x.cutAt(6, 4, -1, -1));
    }

    private static void cutNodeRefusals() {
        sentence("Promise 29: its node is 0, and no such cut: that it cannot be is told");
        refused(CANNOT, DiagramEdges::tower, x -> x.cutAt(8, 2, 0, 0));
        refused(CANNOT, DiagramEdges::tower, x -> x.cutAt(9, 2, -1, 0));
        refused(CANNOT, DiagramEdges::tower, x -> x.cutAt(8, 2, 1, 9));
        sentence("Promise 29: the nets are not closed, and no such cut: that it cannot be is told");
        refused(CANNOT, Houses::tower, x -> x.cutAt(0, 2, 0, 0));
        refused(CANNOT, Houses::tower, x -> x.cutAt(0, 2, -1, 0));
        sentence("Promise 29: no such line, and out of range, not closed, or no such cut: no such line is told");
        refused(INDEX, DiagramEdges::tower, x -> x.cutAt(10, 5, 0, 0));
        refused(INDEX, Houses::tower, x -> x.cutAt(-1, 2, 0, 0));
        refused(INDEX, DiagramEdges::tower, x -> x.cutAt(10, 2, 9, 0));
        sentence("Promise 29: out of range, and not closed, the node 0, or no such cut: the range is told");
        refused(RANGE, Houses::tower, x -> x.cutAt(0, 5, 0, 0));
        refused(RANGE, DiagramEdges::tower, x -> x.cutAt(8, 1, 0, 0));
        refused(RANGE, DiagramEdges::tower, x -> x.cutAt(6, 5, 9, 0));
        refused(RANGE, DiagramEdges::tower, x -> x.cutAt(6, 1, 0, 9));
    }

    private static void tables() {
        sentence("Promise 30: the number of the line");
        beyond(INDEX, DiagramEdges::tower, 0, 9, (x, line) -> x.table(line, 2, 0));
        due(2, tower().table(0, 2, 0));
        due(2, tower().table(7, 2, 0));
        sentence("Promise 30: at most so many nodes, 2 to 4");
        limits(RANGE, DiagramEdges::tower, 2, 8, 4, 8, (x, most) -> x.table(6, most, 1));
        sentence("Promise 30: the number of the cut, from 0");
        limits(NONE, DiagramEdges::tower, 0, 2, 1, 8, (x, cut) -> x.table(6, 2, cut));
        limits(NONE, DiagramEdges::tower, 0, 2, 3, 128, (x, cut) -> x.table(6, 3, cut));
        limits(NONE, DiagramEdges::tower, 0, 2, 4, 32768, (x, cut) -> x.table(6, 4, cut));
        limits(NONE, DiagramEdges::tower, 0, 2, 0, 2, (x, cut) -> x.table(3, 4, cut));
        sentence("Promise 30: the first node is the lowest bit of the choice");
        Miterhouse y = Houses.inputs(2);
        y.gate(0, 'a', 0, y.gate(0, 'v', 1, 0));
        y.gate(0, 'r', 0, y.gate(0, 'v', 1, 0));
        y.gate(0, 'r', 0, 1);
        Houses.closed(y);
        due(2, y.table(3, 2, 1));
        due(4, y.table(5, 2, 1));
        due(1, y.table(6, 2, 1));
        sentence("Promise 30: its node is 0, or not closed, and no such cut: that it cannot be is told");
        refused(CANNOT, DiagramEdges::tower, x -> x.table(8, 2, 0));
        refused(CANNOT, DiagramEdges::tower, x -> x.table(9, 2, -1));
        refused(CANNOT, Houses::tower, x -> x.table(0, 2, 0));
        refused(CANNOT, Houses::tower, x -> x.table(0, 2, 9));
        sentence("Promise 30: no such line, and out of range, not closed, or no such cut: no such line is told");
        refused(INDEX, DiagramEdges::tower, x -> x.table(10, 5, 0));
        refused(INDEX, Houses::tower, x -> x.table(-1, 2, 0));
        refused(INDEX, DiagramEdges::tower, x -> x.table(10, 2, -1));
        sentence("Promise 30: out of range, and not closed, the node 0, or no such cut: the range is told");
        refused(RANGE, Houses::tower, x -> x.table(0, 1, 0));
        refused(RANGE, DiagramEdges::tower, x -> x.table(9, 5, 0));
        refused(RANGE, DiagramEdges::tower, x -> x.table(6, 5, -1));
    }

    private static void normalForms() {
        sentence("Promise 31: inputs, 1 to 4");
        limits(RANGE, Miterhouse::new, 1, 1, 4, 15, (x, inputs) -> x.normal(inputs, inputs == 1 ? 1 : 3840));
        limits(RANGE, Houses::small, 1, 0, 4, 0, (x, inputs) -> x.normal(inputs, 0));
        sentence("Promise 31: the table, 0 to less than 2 to the power of 2 to the power of the inputs");
        for (int inputs = 1; inputs <= 4; inputs++) {
            int n = inputs;
            limits(RANGE, Miterhouse::new, 0, 0, (1 << (1 << n)) - 1, 0, (x, table) -> x.normal(n, table));
        }
        limits(RANGE, Houses::small, 0, 0, 65535, 0, (x, table) -> x.normal(4, table));
        sentence("Promise 31: a table that is too large for the inputs, and for one more is not");
        for (int inputs = 1; inputs < 4; inputs++) {
            int n = inputs;
            refused(RANGE, Miterhouse::new, x -> x.normal(n, 1 << (1 << n)));
            due(1, new Miterhouse().normal(n + 1, 1 << (1 << n)));
        }
        sentence("Promise 31: both numbers are out of range");
        refused(RANGE, Miterhouse::new, x -> x.normal(0, -1));
        refused(RANGE, Miterhouse::new, x -> x.normal(5, 65536));
        refused(RANGE, Miterhouse::new, x -> x.normal(Integer.MAX_VALUE, Integer.MIN_VALUE));
        refused(RANGE, Miterhouse::new, x -> x.normal(32, 0));
        sentence("Promise 31: closed or not, the answer is the same");
        due(1, Houses.small().normal(2, 14));
        due(1, Houses.open().normal(2, 14));
    }
}
