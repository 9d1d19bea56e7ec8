import java.util.NoSuchElementException;

/** Each promise by itself: ordinary calls, the edges that the document names, and wrong ones. */
public final class PromiseTests {
    private static final Class<? extends Exception> RANGE = IllegalArgumentException.class;
    private static final Class<? extends Exception> INDEX = IndexOutOfBoundsException.class;
    private static final Class<? extends Exception> CANNOT = UnsupportedOperationException.class;
    private static final Class<? extends Exception> FULL = IllegalStateException.class;
    private static final Class<? extends Exception> NONE = NoSuchElementException.class;
    private static final Class<? extends Exception> NOTHING = ArithmeticException.class;

    private static int promise;
    private static int wrong;
    private static int checks;

    private interface Call {
        Object answer();
    }

    public static void main(String[] args) {
        building();
        gatesAndPins();
        patternsAndProofs();
        diagrams();
        cuts();
        words();
        care();
        registers();
        numbers();
        System.out.println(checks + " checks of promises, " + wrong + " wrong");
        if (wrong > 0) {
            System.exit(1);
        }
    }

    private static void due(Object want, Object got) {
        checks++;
        if (!want.equals(got)) {
            wrong++;
            System.out.println("promise " + promise + ": answered " + got + ", due is " + want
                    + ", line " + new Throwable().getStackTrace()[1].getLineNumber());
        }
    }

    private static void throwing(Class<? extends Exception> want, Call call) {
        checks++;
        Object got;
        try {
            got = call.answer();
        } catch (RuntimeException e) {
            got = e.getClass();
        }
        if (got != want) {
            wrong++;
            System.out.println("promise " + promise + ": answered " + got + ", due is " + want
                    + ", line " + new Throwable().getStackTrace()[1].getLineNumber());
        }
    }

    private static Miterhouse withInputs(int count) {
        Miterhouse x = new Miterhouse();
        for (int i = 0; i < count; i++) {
            x.input();
        }
        return x;
    }

    private static Miterhouse closed(Miterhouse x, int one, int other) {
        x.output(0, one);
        x.output(1, other);
        x.close();
        return x;
    }

    /** Two inputs; 2 and, 3 or, 4 unlike of the net 0; 5 and turned round, 6 not and of the net 1. */
    private static Miterhouse pairs() {
        Miterhouse x = withInputs(2);
        x.gate(0, 'a', 0, 1);
        x.gate(0, 'o', 0, 1);
        x.gate(0, 'x', 0, 1);
        x.gate(1, 'a', 1, 0);
        x.gate(1, 'n', 0, 1);
        return closed(x, 2, 5);
    }

    /** An input 0; cells 1, 2 of the net 0 and 3, 4 of the net 1 count up to 3; data 5, 7 and 8, 10. */
    private static Miterhouse counters(int firstOfLast, char lastKind) {
        Miterhouse x = withInputs(1);
        x.cell(0, 0, 1);
        x.cell(0, 0, 2);
        x.cell(1, 0, 1);
        x.cell(1, firstOfLast, 2);
        x.data(1, x.gate(0, 'x', 1, 0));
        x.data(2, x.gate(0, 'x', 2, x.gate(0, 'a', 1, 0)));
        x.data(3, x.gate(1, 'x', 3, 0));
        x.gate(1, 'a', 3, 0);
        x.data(4, x.gate(1, lastKind, 4, 9));
        x.gate(0, 'a', 1, 2);
        x.gate(1, 'a', 3, 4);
        return closed(x, 11, 12);
    }

    private static void building() {
        promise = 1;
        Miterhouse x = new Miterhouse();
        due(0, x.lines());
        due(0, x.patterns());
        due(0L, x.mergeProofs());
        due(true, x.areSame(6));
        due(0, x.word(1, 6, 3, 5));
        due(true, x.isSound());

        promise = 2;
        for (int i = 0; i < 6; i++) {
            due(i, x.input());
        }
        Miterhouse six = x;
        throwing(FULL, six::input);
        due(6, x.lines());
        Miterhouse full = new Miterhouse();
        full.input();
        for (int i = 1; i < 80; i++) {
            full.gate(0, 'b', i - 1, 0);
        }
        throwing(FULL, full::input);
        Miterhouse shut = closed(withInputs(6), 0, 0);
        throwing(CANNOT, shut::input);

        promise = 3;
        x = withInputs(1);
        Miterhouse c = x;
        due(1, x.cell(0, 1, 9));
        due(2, x.cell(1, 0, 9));
        throwing(RANGE, () -> c.cell(2, 0, 0));
        throwing(RANGE, () -> c.cell(-1, 0, 0));
        throwing(RANGE, () -> c.cell(0, 2, 0));
        throwing(RANGE, () -> c.cell(0, 0, 10));
        throwing(RANGE, () -> c.cell(0, 0, -1));
        throwing(CANNOT, () -> c.cell(0, 0, 9));
        for (int name = 0; name < 3; name++) {
            due(3 + name, x.cell(0, 0, name));
        }
        throwing(FULL, () -> c.cell(0, 0, 5));
        throwing(CANNOT, () -> c.cell(0, 0, 2));
        due(6, x.cell(1, 0, 5));
        throwing(FULL, () -> full.cell(0, 0, 0));
        Miterhouse cellAtFirst = new Miterhouse();
        due(0, cellAtFirst.cell(1, 0, 3));
        throwing(CANNOT, () -> cellAtFirst.cell(1, 0, 3));
        due(1, cellAtFirst.cell(0, 0, 3));
        throwing(CANNOT, () -> shut.cell(0, 0, 0));
        throwing(RANGE, () -> shut.cell(0, 0, 10));

        promise = 4;
        due(7, x.gate(0, 'a', 0, 1));
        due(8, x.gate(1, 'v', 2, 1));
        due(9, x.gate(1, 'b', 0, -1));
        throwing(RANGE, () -> c.gate(2, 'a', 0, 0));
        throwing(RANGE, () -> c.gate(0, 'q', 99, 0));
        throwing(INDEX, () -> c.gate(0, 'a', 10, 0));
        throwing(INDEX, () -> c.gate(0, 'a', 0, 10));
        throwing(INDEX, () -> c.gate(0, 'v', -1, 0));
        throwing(CANNOT, () -> c.gate(0, 'a', 0, 2));
        throwing(CANNOT, () -> c.gate(1, 'x', 7, 0));
        due(10, x.lines());
        throwing(FULL, () -> full.gate(0, 'a', 0, 0));
        throwing(CANNOT, () -> full.gate(1, 'a', 1, 0));
        throwing(CANNOT, () -> shut.gate(0, 'a', 0, 0));
        throwing(INDEX, () -> shut.gate(0, 'a', 0, 6));

        promise = 5;
        due(-1, x.data(1, 7));
        due(7, x.data(1, 0));
        due(0, x.data(1, 1));
        throwing(INDEX, () -> c.data(10, 0));
        throwing(INDEX, () -> c.data(0, 10));
        throwing(CANNOT, () -> c.data(0, 0));
        throwing(CANNOT, () -> c.data(1, 2));
        throwing(CANNOT, () -> counters(0, 'x').data(1, 0));

        promise = 6;
        due(0, x.output(0, 0));
        due(1, x.output(0, 7));
        due(0, x.output(1, 0));
        throwing(RANGE, () -> c.output(2, 99));
        throwing(INDEX, () -> c.output(0, 10));
        throwing(CANNOT, () -> c.output(0, 8));
        due(2, x.output(0, 7));
        due(3, x.output(0, 7));
        throwing(FULL, () -> c.output(0, 7));
        throwing(CANNOT, () -> c.output(0, 2));
        throwing(CANNOT, () -> shut.output(0, 0));

        promise = 7;
        throwing(CANNOT, c::close);
        x.output(1, 9);
        x.output(1, 9);
        x.output(1, 9);
        throwing(CANNOT, c::close);
        for (int cell = 2; cell < 7; cell++) {
            x.data(cell, 0);
        }
        due(7, x.close());
        throwing(CANNOT, c::close);
        throwing(CANNOT, () -> withInputs(1).close());
        Miterhouse uneven = withInputs(1);
        uneven.output(0, 0);
        throwing(CANNOT, uneven::close);
        uneven.output(1, 0);
        due(1, uneven.close());
        due(1, uneven.lines());
    }

    private static void gatesAndPins() {
        promise = 8;
        Miterhouse x = withInputs(3);
        x.gate(0, 'o', 0, 1);
        x.cell(0, 0, 0);
        x.gate(0, 'a', 0, 4);
        x.gate(1, 'v', 0, 0);
        x.data(4, 0);
        Miterhouse c = x;
        throwing(CANNOT, () -> c.constrain(0));
        throwing(INDEX, () -> c.constrain(7));
        closed(x, 0, 0);
        due(12, x.constrain(3));
        throwing(INDEX, () -> c.constrain(-1));
        throwing(CANNOT, () -> c.constrain(4));
        throwing(CANNOT, () -> c.constrain(5));
        due(8, x.constrain(0));
        throwing(CANNOT, () -> c.constrain(6));
        due(8, x.constrain(0));
        due(4, x.constrain(2));
        throwing(FULL, () -> c.constrain(0));
        throwing(CANNOT, () -> c.constrain(6));
        throwing(CANNOT, () -> c.constrain(4));

        promise = 9;
        Miterhouse g = withInputs(2);
        String kinds = "aoxnrbv";
        int[] tables = {8, 14, 6, 7, 1, 10, 5};
        for (int k = 0; k < 7; k++) {
            g.gate(k % 2, kinds.charAt(k), 0, 1);
        }
        throwing(CANNOT, () -> g.value(0, 3));
        throwing(RANGE, () -> g.value(0, 4));
        closed(g, 0, 1);
        for (int k = 0; k < 7; k++) {
            for (int choice = 0; choice < 4; choice++) {
                due(tables[k] >> choice & 1, g.value(2 + k, choice));
            }
        }
        throwing(INDEX, () -> g.value(9, 9));
        throwing(RANGE, () -> g.value(0, 4));
        throwing(RANGE, () -> g.value(0, -1));
        due(1, x.value(4, 8));
        due(0, x.value(4, 7));
        Miterhouse mixed = new Miterhouse();
        mixed.cell(0, 0, 0);
        mixed.input();
        mixed.data(0, 1);
        closed(mixed, 0, 1);
        due(1, mixed.value(1, 1));
        due(0, mixed.value(0, 1));
        due(1, mixed.value(0, 2));

        promise = 10;
        literals();
    }

    /** Every rule of an and, by its literal. */
    private static void literals() {
        Miterhouse x = withInputs(2);
        int and = x.gate(0, 'a', 0, 1);
        int or = x.gate(0, 'o', 0, 1);
        int notAnd = x.gate(0, 'n', 1, 0);
        int notOr = x.gate(1, 'r', 0, 1);
        int unlike = x.gate(0, 'x', 0, 1);
        int not = x.gate(0, 'v', 0, 0);
        int same = x.gate(0, 'b', 1, 0);
        int no = x.gate(0, 'a', 0, not);
        int yes = x.gate(0, 'v', no, 0);
        int once = x.gate(0, 'a', 0, 0);
        int byYes = x.gate(0, 'a', yes, 1);
        int byNo = x.gate(0, 'a', no, 1);
        int pinTurned = x.gate(0, 'a', and, not);
        int pinThere = x.gate(0, 'a', 0, and);
        int outsideTurned = x.gate(0, 'a', notAnd, not);
        int outsideFirst = x.gate(0, 'a', notAnd, 0);
        int outsideSecond = x.gate(0, 'a', notAnd, 1);
        int ofYes = x.gate(0, 'a', yes, yes);
        throwing(CANNOT, () -> x.literal(0));
        throwing(CANNOT, x::ands);
        throwing(CANNOT, () -> x.pin(3, true));
        closed(x, 0, 1);
        due(2, x.literal(0));
        due(4, x.literal(1));
        due(6, x.literal(and));
        due(9, x.literal(or));
        due(7, x.literal(notAnd));
        due(8, x.literal(notOr));
        due(10, x.literal(unlike));
        due(3, x.literal(not));
        due(4, x.literal(same));
        due(0, x.literal(no));
        due(1, x.literal(yes));
        due(2, x.literal(once));
        due(4, x.literal(byYes));
        due(0, x.literal(byNo));
        due(0, x.literal(pinTurned));
        due(6, x.literal(pinThere));
        due(3, x.literal(outsideTurned));
        due(12, x.literal(outsideFirst));
        due(14, x.literal(outsideSecond));
        due(1, x.literal(ofYes));
        throwing(INDEX, () -> x.literal(20));
        throwing(INDEX, () -> x.literal(-1));
        promise = 11;
        due(5, x.ands());
        due(0, closed(withInputs(1), 0, 0).ands());
        promise = 12;
        due(2, x.pin(3, true));
        due(4, x.pin(3, false));
        due(3, x.pin(4, true));
        due(5, x.pin(4, false));
        due(7, x.pin(5, true));
        due(9, x.pin(5, false));
        due(2, x.pin(6, true));
        due(5, x.pin(6, false));
        due(3, x.pin(7, true));
        due(4, x.pin(7, false));
        throwing(NONE, () -> x.pin(2, true));
        throwing(NONE, () -> x.pin(8, true));
        throwing(NONE, () -> x.pin(0, false));
        throwing(NONE, () -> x.pin(-1, false));
    }

    private static void patternsAndProofs() {
        promise = 13;
        Miterhouse x = pairs();
        due(0, x.pattern(0));
        due(1, x.pattern(3));
        due(2, x.pattern(3));
        throwing(RANGE, () -> x.pattern(4));
        throwing(RANGE, () -> x.pattern(-1));
        throwing(CANNOT, () -> withInputs(1).pattern(1));
        throwing(RANGE, () -> withInputs(1).pattern(2));
        promise = 14;
        due(6L, x.signature(0));
        due(6L, x.signature(2));
        due(0L, x.signature(4));
        due(1L, x.signature(6));
        throwing(INDEX, () -> x.signature(7));
        throwing(CANNOT, () -> withInputs(1).signature(0));
        promise = 15;
        due(5, x.candidates(0));
        due(0, x.candidates(4));
        due(6, pairs().candidates(4));
        throwing(INDEX, () -> x.candidates(-1));
        throwing(CANNOT, () -> withInputs(1).candidates(0));
        promise = 13;
        x.constrain(0);
        throwing(CANNOT, () -> x.pattern(2));
        due(6L, x.signature(0));
        for (int k = 3; k < 64; k++) {
            due(k, x.pattern(1));
        }
        throwing(FULL, () -> x.pattern(1));
        throwing(CANNOT, () -> x.pattern(0));
        throwing(RANGE, () -> x.pattern(5));
        promise = 22;
        due(64, x.patterns());
        promise = 14;
        due(-2L, x.signature(0));
        due(6L, x.signature(1));
        promise = 15;
        due(3, x.candidates(2));
        promise = 16;
        trees();
        sweeps();
    }

    private static void trees() {
        Miterhouse x = pairs();
        due('e', x.prove(2, 5, false, 3));
        due('u', x.prove(2, 5, false, 2));
        due('e', x.prove(6, 2, true, 3));
        due('d', x.prove(2, 3, false, 1));
        due('u', x.prove(3, 4, false, 2));
        due('d', x.prove(3, 4, false, 3));
        due('d', x.prove(2, 5, true, 1));
        due('e', x.prove(0, 0, false, 2));
        due('u', x.prove(1, 1, false, 3));
        due('e', x.prove(1, 1, false, 20000));
        throwing(INDEX, () -> x.prove(7, 0, false, 0));
        throwing(INDEX, () -> x.prove(0, -1, false, 0));
        throwing(RANGE, () -> x.prove(0, 0, false, 0));
        throwing(RANGE, () -> x.prove(0, 0, false, 20001));
        throwing(CANNOT, () -> withInputs(1).prove(0, 0, false, 1));
        throwing(RANGE, () -> withInputs(1).prove(0, 0, false, 0));
        promise = 17;
        due(3, x.proof(2, 5, false));
        due(4, x.proof(1, 1, false));
        due(3, x.proof(2, 6, true));
        throwing(NONE, () -> x.proof(2, 3, false));
        throwing(INDEX, () -> x.proof(0, 7, false));
        throwing(CANNOT, () -> withInputs(1).proof(0, 0, false));
        promise = 18;
        due(2, x.witness(2, 3, false));
        due(3, x.witness(3, 4, false));
        due(0, x.witness(0, 0, true));
        due(1, x.witness(0, 2, false));
        throwing(NONE, () -> x.witness(2, 5, false));
        throwing(INDEX, () -> x.witness(0, 7, false));
        throwing(CANNOT, () -> withInputs(1).witness(0, 0, false));
        // A constraint that is known to be 0 makes a leaf, wherever it is known.
        x.constrain(0);
        promise = 17;
        due(2, x.proof(3, 0, false));
        promise = 16;
        due('e', x.prove(3, 0, false, 2));
        due('u', x.prove(3, 0, false, 1));
        promise = 18;
        due(1, x.witness(2, 3, false));
        // A gate tells what each of its pins can be by itself: unlike of a line and itself is unknown.
        Miterhouse y = withInputs(1);
        y.gate(0, 'x', 0, 0);
        y.gate(1, 'v', 0, 0);
        y.gate(1, 'a', 0, 2);
        closed(y, 1, 3);
        promise = 17;
        due(2, y.proof(1, 3, false));
        // Sources that do nothing to the lines are decided as well, in front of those that do.
        Miterhouse z = withInputs(6);
        closed(z, 5, 5);
        due(64, z.proof(5, 5, false));
        due(2, z.proof(0, 0, false));
        promise = 18;
        due(0, z.witness(5, 5, true));
        due(32, z.witness(5, 0, false));
    }

    private static void sweeps() {
        promise = 19;
        Miterhouse x = withInputs(2);
        x.gate(0, 'a', 0, 1);
        x.gate(1, 'a', 1, 0);
        x.gate(1, 'n', 0, 1);
        throwing(CANNOT, () -> x.sweep(1));
        throwing(RANGE, () -> x.sweep(0));
        promise = 20;
        due(6, x.merged(3));
        promise = 47;
        due(0f, x.mergedShare());
        closed(x, 2, 3);
        x.pattern(0);
        promise = 19;
        due(0, x.sweep(2));
        due(3, x.patterns());
        due(2, x.sweep(3));
        due(3, x.patterns());
        due(2, x.sweep(20000));
        throwing(RANGE, () -> x.sweep(20001));
        due(2L, x.signature(1));
        due(4L, x.signature(0));
        promise = 20;
        due(4, x.merged(2));
        due(4, x.merged(3));
        due(5, x.merged(4));
        due(0, x.merged(0));
        throwing(INDEX, () -> x.merged(5));
        throwing(INDEX, () -> x.merged(-1));
        promise = 21;
        due(6L, x.mergeProofs());
        promise = 47;
        due(2f / 5f, x.mergedShare());
        // Without patterns two lines are candidates both ways; they are taken straight, and once.
        promise = 19;
        Miterhouse y = withInputs(1);
        y.gate(0, 'v', 0, 0);
        closed(y, 0, 0);
        due(0, y.sweep(9));
        due(1, y.patterns());
        due(1, y.sweep(9));
        due(1, y.merged(1));
        // With 64 patterns a difference gives no more.
        Miterhouse z = pairs();
        for (int k = 0; k < 64; k++) {
            z.pattern(0);
        }
        due(2, z.sweep(9));
        due(64, z.patterns());
        due(0L, z.signature(1));
        // A merge is taken to the first line that is proved, not to one that is merged itself.
        due(4, z.merged(5));
        due(5, z.merged(6));
        due(true, z.isSound());
    }

    /** Four inputs; 6 is 0 and 1, or 2 and 3; 9 the same of the net 1. */
    private static Miterhouse fourInputs() {
        Miterhouse x = withInputs(4);
        x.gate(0, 'o', x.gate(0, 'a', 0, 1), x.gate(0, 'a', 2, 3));
        x.gate(1, 'o', x.gate(1, 'a', 0, 1), x.gate(1, 'a', 2, 3));
        return closed(x, 6, 9);
    }

    private static void diagrams() {
        promise = 23;
        Miterhouse x = fourInputs();
        due(2, x.order(2, 1));
        promise = 24;
        due(0, x.placeOf(0));
        due(1, x.placeOf(2));
        due(2, x.placeOf(1));
        due(3, x.placeOf(3));
        throwing(RANGE, () -> x.placeOf(4));
        throwing(RANGE, () -> x.placeOf(-1));
        throwing(CANNOT, () -> withInputs(1).placeOf(5));
        promise = 25;
        due(6, x.diagram(6, 6));
        due(-1, x.diagram(6, 5));
        due(6, x.diagram(9, 9999));
        due(2, x.diagram(4, 9));
        due(1, x.diagram(3, 1));
        throwing(INDEX, () -> x.diagram(10, 0));
        throwing(RANGE, () -> x.diagram(0, 0));
        throwing(RANGE, () -> x.diagram(0, 10000));
        throwing(CANNOT, () -> withInputs(1).diagram(0, 1));
        promise = 26;
        due(6, x.allDiagrams());
        throwing(CANNOT, () -> withInputs(1).allDiagrams());
        promise = 23;
        due(2, x.order(1, 1));
        due(1, x.order(1, 1));
        due(4, x.allDiagrams());
        due(0, x.order(0, 3));
        due(0, x.placeOf(1));
        due(3, x.placeOf(0));
        due(6, x.allDiagrams());
        throwing(RANGE, () -> x.order(4, 0));
        throwing(RANGE, () -> x.order(0, 4));
        throwing(RANGE, () -> x.order(-1, 0));
        throwing(RANGE, () -> x.order(0, -1));
        throwing(CANNOT, () -> withInputs(1).order(9, 9));
        promise = 27;
        Miterhouse y = fourInputs();
        y.order(2, 1);
        due(4, y.sift());
        throwing(CANNOT, () -> withInputs(1).sift());
        // Without a gain a source goes to the first place: 0 stays, then 1 goes in front of it.
        Miterhouse z = closed(withInputs(2), 1, 1);
        due(1, z.sift());
        due(0, z.placeOf(1));
        due(1, z.placeOf(0));
        promise = 26;
        Miterhouse w = withInputs(3);
        w.gate(0, 'x', w.gate(0, 'x', 0, 1), 2);
        closed(w, 4, 2);
        due(5, w.allDiagrams());
        due(5, w.diagram(4, 9));
        due(3, w.diagram(3, 9));
        // Constants have no node, and constraints do not matter.
        w.constrain(0);
        due(5, w.allDiagrams());
        Miterhouse v = withInputs(1);
        v.gate(0, 'x', 0, 0);
        closed(v, 1, 0);
        promise = 25;
        due(0, v.diagram(1, 1));
        manySources();
    }

    /** Eight sources: pairs of cells that are apart in the order, then moved together. */
    private static void manySources() {
        Miterhouse x = withInputs(4);
        for (int k = 0; k < 4; k++) {
            x.cell(0, 0, k);
            x.data(4 + k, 0);
        }
        int sum = x.gate(0, 'a', 0, 4);
        for (int k = 1; k < 4; k++) {
            sum = x.gate(0, 'o', sum, x.gate(0, 'a', k, 4 + k));
        }
        closed(x, sum, x.gate(1, 'x', 0, 0));
        // Apart, the first four make 15 nodes, the others as many; together 2 nodes each.
        promise = 25;
        due(30, x.diagram(sum, 99));
        for (int k = 0; k < 3; k++) {
            x.order(4 + k, 2 * k + 1);
        }
        due(8, x.diagram(sum, 99));
        promise = 26;
        due(8, x.allDiagrams());
        promise = 27;
        due(8, x.sift());
        due(true, x.isSound());
    }

    private static void cuts() {
        promise = 28;
        Miterhouse x = withInputs(4);
        int top = x.gate(0, 'a', x.gate(0, 'a', 0, 1), x.gate(0, 'a', 2, 3));
        int none = x.gate(0, 'x', 0, 0);
        int not = x.gate(0, 'v', top, 0);
        int meet = x.gate(0, 'a', 4, x.gate(0, 'o', 0, 1));
        throwing(CANNOT, () -> x.cuts(0, 2));
        throwing(RANGE, () -> x.cuts(0, 5));
        closed(x, top, 0);
        due(2, x.cuts(top, 2));
        due(4, x.cuts(top, 3));
        due(5, x.cuts(top, 4));
        due(5, x.cuts(not, 4));
        due(1, x.cuts(3, 4));
        due(3, x.cuts(meet, 4));
        throwing(INDEX, () -> x.cuts(11, 9));
        throwing(RANGE, () -> x.cuts(0, 1));
        throwing(RANGE, () -> x.cuts(0, 5));
        throwing(CANNOT, () -> x.cuts(none, 2));
        promise = 29;
        int[][] all = {{7}, {5, 6}, {1, 2, 6}, {3, 4, 5}, {1, 2, 3, 4}};
        for (int cut = 0; cut < 5; cut++) {
            for (int index = 0; index < all[cut].length; index++) {
                due(all[cut][index], x.cutAt(top, 4, cut, index));
            }
            int number = cut;
            throwing(NONE, () -> x.cutAt(top, 4, number, all[number].length));
        }
        due(9, x.cutAt(meet, 4, 0, 0));
        due(1, x.cutAt(meet, 4, 1, 0));
        due(5, x.cutAt(meet, 4, 2, 0));
        due(8, x.cutAt(meet, 4, 2, 1));
        throwing(NONE, () -> x.cutAt(top, 3, 4, 0));
        throwing(NONE, () -> x.cutAt(top, 3, -1, 0));
        throwing(NONE, () -> x.cutAt(top, 3, 0, -1));
        throwing(INDEX, () -> x.cutAt(-1, 3, 0, 0));
        throwing(RANGE, () -> x.cutAt(0, 5, 9, 0));
        throwing(CANNOT, () -> x.cutAt(none, 3, 9, 0));
        promise = 30;
        due(2, x.table(top, 4, 0));
        due(8, x.table(top, 4, 1));
        due(128, x.table(top, 4, 2));
        due(32768, x.table(not, 4, 4));
        due(8, x.table(meet, 2, 1));
        due(2, x.table(meet, 2, 2));
        due(2, x.table(3, 2, 0));
        throwing(NONE, () -> x.table(top, 4, 5));
        throwing(NONE, () -> x.table(top, 4, -1));
        throwing(INDEX, () -> x.table(11, 4, 0));
        throwing(RANGE, () -> x.table(0, 1, 0));
        throwing(CANNOT, () -> x.table(none, 2, 0));
        promise = 31;
        due(0, x.normal(1, 3));
        due(1, x.normal(1, 2));
        due(1, x.normal(2, 8));
        due(1, x.normal(2, 13));
        due(6, x.normal(2, 9));
        due(3, x.normal(2, 10));
        due(1, x.normal(3, 128));
        due(105, x.normal(3, 150));
        due(23, x.normal(3, 232));
        due(15, x.normal(3, 170));
        due(1, x.normal(4, 32768));
        due(0, x.normal(4, 65535));
        due(255, x.normal(4, 43690));
        due(27030, x.normal(4, 27030));
        throwing(RANGE, () -> x.normal(0, 0));
        throwing(RANGE, () -> x.normal(5, 0));
        throwing(RANGE, () -> x.normal(2, 16));
        throwing(RANGE, () -> x.normal(4, 65536));
        throwing(RANGE, () -> x.normal(4, -1));
    }

    private static void words() {
        promise = 32;
        Miterhouse x = new Miterhouse();
        due(0, x.coefficient(0, 2, 0, 999));
        due(999, x.coefficient(0, 2, 0, 2));
        due(0, x.coefficient(1, 2, 0, -999));
        due(-999, x.coefficient(1, 2, 0, 0));
        throwing(RANGE, () -> x.coefficient(2, 0, 0, 0));
        throwing(RANGE, () -> x.coefficient(0, 4, 0, 0));
        throwing(RANGE, () -> x.coefficient(0, 0, -1, 0));
        throwing(RANGE, () -> x.coefficient(0, 0, 0, 1000));
        throwing(RANGE, () -> x.coefficient(0, 0, 0, -1000));
        due(0, x.coefficient(0, 1, 0, 2));
        promise = 33;
        due(true, x.areSame(1));
        due(true, x.areSame(2));
        due(false, x.areSame(3));
        x.coefficient(1, 1, 0, -6);
        x.coefficient(1, 2, 0, 2);
        due(true, x.areSame(3));
        due(false, x.areSame(4));
        throwing(RANGE, () -> x.areSame(0));
        throwing(RANGE, () -> x.areSame(7));
        // x to the power of 3 less x is 0 modulo 2 and not modulo 4; times y times y plus y it is 0 there.
        Miterhouse y = new Miterhouse();
        y.coefficient(0, 3, 0, 1);
        y.coefficient(0, 1, 0, -1);
        due(true, y.areSame(1));
        due(false, y.areSame(2));
        y.coefficient(0, 3, 0, 0);
        y.coefficient(0, 1, 0, 0);
        for (int j = 1; j < 3; j++) {
            y.coefficient(0, 3, j, 1);
            y.coefficient(0, 1, j, -1);
        }
        due(true, y.areSame(2));
        due(false, y.areSame(6));
        // Of x less 1, less 2, less 3 in a product only 0 tells, of x, x less 1, less 2 only 3; so in y.
        int[][] told = {{-6, 11, -6, 1}, {0, 2, -3, 1}};
        for (int k = 0; k < 4; k++) {
            Miterhouse z = new Miterhouse();
            for (int i = 0; i < 4; i++) {
                z.coefficient(1, k < 2 ? i : 0, k < 2 ? 0 : i, told[k % 2][i]);
            }
            due(true, z.areSame(1));
            due(false, z.areSame(2));
        }
        promise = 34;
        due(12, x.word(0, 6, 2, 7));
        due(0, x.word(0, 6, -1, 0));
        due(4, x.word(0, 5, -2, 0));
        due(20, x.word(1, 6, -2, 0));
        due(12, y.word(0, 4, 2, 1));
        due(36, y.word(0, 6, 2, -3));
        due(0, y.word(0, 6, Integer.MIN_VALUE, Integer.MAX_VALUE));
        throwing(RANGE, () -> x.word(2, 1, 0, 0));
        throwing(RANGE, () -> x.word(0, 0, 0, 0));
        throwing(RANGE, () -> x.word(0, 7, 0, 0));
    }

    private static void care() {
        promise = 35;
        Miterhouse x = withInputs(2);
        x.gate(0, 'a', 0, 1);
        x.gate(0, 'o', 0, 1);
        x.gate(1, 'b', 0, 0);
        throwing(CANNOT, () -> x.seen(0));
        throwing(INDEX, () -> x.seen(5));
        throwing(CANNOT, () -> x.isIdle(0));
        throwing(CANNOT, x::meanSeen);
        closed(x, 2, 4);
        int[] seen = {4, 2, 4, 0, 4};
        for (int line = 0; line < 5; line++) {
            promise = 35;
            due(seen[line], x.seen(line));
            promise = 36;
            due(seen[line] == 0, x.isIdle(line));
        }
        throwing(INDEX, () -> x.isIdle(-1));
        promise = 48;
        due(14.0 / 5.0, x.meanSeen());
        throwing(CANNOT, () -> new Miterhouse().meanSeen());
        x.constrain(1);
        promise = 35;
        due(2, x.seen(0));
        due(1, x.seen(1));
        due(2, x.seen(2));
        promise = 48;
        due(7.0 / 5.0, x.meanSeen());
        // A cell that takes an input makes the input seen, and not the line that nothing takes.
        promise = 35;
        Miterhouse y = withInputs(2);
        y.cell(1, 0, 3);
        y.data(2, 1);
        closed(y, 0, 0);
        due(8, y.seen(1));
        due(0, y.seen(2));
        due(8, y.seen(0));
        patches();
    }

    private static void patches() {
        promise = 37;
        Miterhouse x = withInputs(2);
        x.gate(0, 'x', 0, 1);
        x.gate(1, 'a', 0, 1);
        x.gate(1, 'o', 0, 1);
        x.gate(1, 'a', 3, 4);
        x.gate(1, 'v', 0, 0);
        throwing(CANNOT, () -> x.patch(3, 0, 1, -1, -1));
        throwing(RANGE, () -> x.patch(2, 0, 1, -1, -1));
        throwing(INDEX, () -> x.patch(2, 0, 1, 9, -1));
        closed(x, 2, 5);
        due(6, x.patch(3, 0, 1, -1, -1));
        due(6, x.patch(3, 1, 0, -1, 99));
        due(9, x.patch(3, 6, 1, -1, -1));
        due(2 + 4, x.patch(5, 0, 1, -1, 0));
        due(32 + 64, x.patch(3, 0, 1, 4, -1));
        due(512 + 16384, x.patch(3, 0, 1, 6, 4));
        throwing(NONE, () -> x.patch(3, 0, -1, -1, -1));
        throwing(NONE, () -> x.patch(6, 0, 1, -1, -1));
        throwing(RANGE, () -> x.patch(2, 0, 1, -1, -1));
        throwing(RANGE, () -> x.patch(0, 1, -1, -1, -1));
        throwing(RANGE, () -> x.patch(3, 2, -1, -1, -1));
        throwing(RANGE, () -> x.patch(3, 0, 1, 0, -1));
        throwing(RANGE, () -> x.patch(3, 3, -1, -1, -1));
        throwing(RANGE, () -> x.patch(3, 0, 5, -1, -1));
        throwing(INDEX, () -> x.patch(3, -1, 0, -1, -1));
        throwing(INDEX, () -> x.patch(3, 0, -2, -1, -1));
        throwing(INDEX, () -> x.patch(7, 0, -1, -1, -1));
        throwing(INDEX, () -> x.patch(3, 0, 1, 4, 7));
        // Cells: the data of the net 1's cell is patched, then its value in the output.
        Miterhouse y = withInputs(1);
        y.cell(0, 0, 4);
        y.cell(1, 0, 4);
        y.cell(1, 0, 5);
        y.gate(0, 'x', 0, 1);
        y.gate(1, 'o', 0, 2);
        y.data(1, 4);
        y.data(2, 5);
        y.data(3, 0);
        y.output(0, 1);
        y.output(1, 2);
        y.close();
        due(6, y.patch(5, 0, 2, -1, -1));
        throwing(NONE, () -> y.patch(5, 0, 3, -1, -1));
        throwing(NONE, () -> y.patch(3, 0, 2, -1, -1));
        throwing(NONE, () -> y.patch(2, 0, 3, -1, -1));
        y.constrain(0);
        due(1, y.patch(5, 2, -1, -1, -1));
        throwing(NONE, () -> y.patch(2, 0, -1, -1, -1));
        // The net 1's cell may be the line 0; it has the name of the net 0's cell all the same.
        Miterhouse early = new Miterhouse();
        early.cell(1, 0, 4);
        early.cell(0, 0, 4);
        early.data(0, early.gate(1, 'v', 0, 0));
        early.data(1, 1);
        early.output(0, 1);
        early.output(1, 0);
        early.close();
        due(2, early.patch(2, 0, -1, -1, -1));
        // A cell is patched by its value, its data stay; where nothing wants it, it has 0.
        Miterhouse z = withInputs(1);
        z.cell(0, 0, 4);
        z.cell(1, 0, 4);
        z.data(1, 0);
        z.data(2, 0);
        z.gate(1, 'a', 0, 2);
        closed(z, 0, 3);
        due(2, z.patch(2, 0, -1, -1, -1));
        due(2, z.patch(3, 0, -1, -1, -1));
    }

    private static void registers() {
        promise = 38;
        Miterhouse x = counters(0, 'x');
        due(true, x.correspond(1, 3, true));
        due(false, x.correspond(1, 4, true));
        due(true, x.correspond(1, 3, false));
        due(true, x.correspond(2, 4, false));
        due(false, x.correspond(1, 2, false));
        due(true, x.correspond(2, 2, false));
        throwing(INDEX, () -> x.correspond(13, 0, true));
        throwing(INDEX, () -> x.correspond(0, -1, true));
        throwing(CANNOT, () -> x.correspond(0, 1, true));
        throwing(CANNOT, () -> x.correspond(1, 5, false));
        throwing(CANNOT, () -> withInputs(1).correspond(0, 0, true));
        promise = 39;
        due(2, x.cellClasses());
        due(3, counters(0, 'o').cellClasses());
        due(3, counters(1, 'x').cellClasses());
        due(0, pairs().cellClasses());
        throwing(CANNOT, () -> withInputs(1).cellClasses());
        promise = 38;
        Miterhouse apart = counters(1, 'x');
        due(true, apart.correspond(2, 4, true));
        due(false, apart.correspond(2, 4, false));
        due(true, apart.correspond(1, 3, false));

        states(x);
    }

    private static void states(Miterhouse x) {
        promise = 40;
        due(4, x.reached());
        due(1, pairs().reached());
        throwing(CANNOT, () -> withInputs(1).reached());
        // The high bit of the net 1 stays: 00, 11, 22, 33, then 02, 13 and 22 again.
        Miterhouse late = counters(0, 'o');
        due(6, late.reached());
        Miterhouse still = counters(0, 'o');
        still.constrain(0);
        due(6, still.reached());
        promise = 41;
        due(-1, x.difference());
        due(5, late.difference());
        due(1, counters(1, 'x').difference());
        throwing(CANNOT, () -> withInputs(1).difference());
        promise = 42;
        for (int step = 0; step < 5; step++) {
            due(1, late.trace(step));
        }
        due(0, late.trace(5));
        throwing(NONE, () -> late.trace(6));
        throwing(NONE, () -> late.trace(-1));
        throwing(NONE, () -> x.trace(0));
        throwing(NONE, () -> x.trace(-1));
        throwing(CANNOT, () -> withInputs(1).trace(0));
        Miterhouse atOnce = withInputs(2);
        atOnce.gate(0, 'a', 0, 1);
        atOnce.gate(1, 'r', 0, 1);
        atOnce.gate(0, 'o', 0, 1);
        closed(atOnce, 2, 3);
        due(0, atOnce.trace(0));
        atOnce.constrain(4);
        promise = 41;
        due(0, atOnce.difference());
        promise = 42;
        due(3, atOnce.trace(0));
        Miterhouse anyInput = withInputs(2);
        anyInput.cell(0, 0, 0);
        anyInput.data(2, anyInput.gate(0, 'o', 2, anyInput.gate(0, 'o', 0, 1)));
        closed(anyInput, 2, anyInput.gate(1, 'x', 0, 0));
        due(1, anyInput.trace(0));
        due(0, anyInput.trace(1));
        promise = 49;
        due(true, late.isSound());
        due(true, anyInput.isSound());
        inductions(x);
    }

    /** Each net takes the input through so many cells. */
    private static Miterhouse pipes(int length, int first) {
        Miterhouse x = withInputs(1);
        for (int net = 0; net < 2; net++) {
            int line = 0;
            for (int k = 0; k < length; k++) {
                int cell = x.cell(net, net == 0 ? 0 : first, k);
                x.data(cell, line);
                line = cell;
            }
            x.output(net, line);
        }
        x.close();
        return x;
    }

    private static void inductions(Miterhouse x) {
        promise = 43;
        due(false, x.isInductive(0));
        due(false, x.isInductive(20));
        due(true, pairs().isInductive(0));
        due(false, pipes(1, 0).isInductive(0));
        due(true, pipes(1, 0).isInductive(1));
        due(false, pipes(2, 0).isInductive(1));
        due(true, pipes(2, 0).isInductive(2));
        due(true, pipes(4, 0).isInductive(20));
        // After one step both are the same, yet there is a difference in the first one.
        due(false, pipes(1, 1).isInductive(1));
        // Only steps whose inputs keep the constraint count.
        Miterhouse gated = withInputs(2);
        gated.cell(0, 0, 0);
        gated.cell(1, 0, 0);
        gated.data(2, gated.gate(0, 'a', 0, 1));
        gated.data(3, 0);
        closed(gated, 2, 3);
        due(false, gated.isInductive(1));
        promise = 40;
        due(3, gated.reached());
        promise = 41;
        due(1, gated.difference());
        promise = 42;
        due(1, gated.trace(0));
        gated.constrain(1);
        promise = 43;
        due(true, gated.isInductive(1));
        due(false, gated.isInductive(0));
        promise = 40;
        due(2, gated.reached());
        promise = 41;
        due(-1, gated.difference());
        promise = 43;
        throwing(RANGE, () -> x.isInductive(21));
        throwing(RANGE, () -> x.isInductive(-1));
        throwing(CANNOT, () -> withInputs(1).isInductive(0));
        promise = 44;
        Miterhouse y = withInputs(1);
        y.cell(0, 1, 0);
        y.cell(0, 1, 1);
        y.cell(0, 1, 2);
        y.cell(0, 0, 3);
        y.data(1, y.gate(0, 'o', 1, 0));
        y.data(2, 0);
        y.data(3, 1);
        y.data(4, 4);
        y.gate(1, 'b', 0, 0);
        closed(y, 5, 6);
        due(true, y.isInvariant(1));
        due(true, y.isInvariant(5));
        due(false, y.isInvariant(2));
        // It is 1 in each state that is reached, but not in each that follows where it is 1.
        due(false, y.isInvariant(3));
        due(false, y.isInvariant(4));
        due(false, y.isInvariant(0));
        throwing(INDEX, () -> y.isInvariant(7));
        throwing(CANNOT, () -> withInputs(1).isInvariant(0));
        y.constrain(6);
        due(true, y.isInvariant(2));
        due(true, y.isInvariant(0));
        promise = 45;
        due(0, x.run(0, 2, 1));
        due(1, x.run(0, 3, 1));
        due(1, x.run(1, 3, 1));
        due(0, x.run(0, 3, 0));
        due(0, x.run(0, 30, 1));
        due(1, counters(1, 'x').run(1, 1, 1));
        Miterhouse z = withInputs(2);
        z.output(0, z.gate(0, 'x', 0, 1));
        z.output(0, 1);
        z.output(1, 0);
        z.output(1, 1);
        z.close();
        due(2, z.run(0, 0, 3));
        due(3, z.run(0, 9, 2));
        due(1, z.run(1, 9, 1));
        throwing(RANGE, () -> x.run(2, 0, 0));
        throwing(RANGE, () -> x.run(0, 31, 0));
        throwing(RANGE, () -> x.run(0, -1, 0));
        throwing(RANGE, () -> x.run(0, 0, 2));
        throwing(RANGE, () -> x.run(0, 0, -1));
        throwing(RANGE, () -> y.run(0, 0, 0));
        throwing(CANNOT, () -> withInputs(1).run(0, 0, 1));
        throwing(RANGE, () -> withInputs(1).run(0, 0, 2));
    }

    private static void numbers() {
        promise = 46;
        Miterhouse x = new Miterhouse();
        due(0, x.lines());
        x.input();
        x.gate(1, 'v', 0, 0);
        x.cell(0, 0, 0);
        due(3, x.lines());
        promise = 47;
        throwing(NOTHING, () -> new Miterhouse().mergedShare());
        due(0f, x.mergedShare());
        x.data(2, 2);
        closed(x, 0, 0);
        x.pattern(0);
        x.sweep(20000);
        due(1f / 3f, x.mergedShare());
        promise = 48;
        throwing(CANNOT, () -> withInputs(1).meanSeen());
        due(8.0 / 3.0, x.meanSeen());
        promise = 49;
        due(true, x.isSound());
        due(true, new Miterhouse().isSound());
        due(true, withInputs(3).isSound());
        Miterhouse y = fourInputs();
        y.sweep(20000);
        y.constrain(6);
        y.sweep(20000);
        due(true, y.isSound());
    }
}
