/** The houses that the tests of edges ask; each call makes a new one. */
final class Houses {
    private Houses() {
    }

    static Miterhouse inputs(int count) {
        Miterhouse x = new Miterhouse();
        for (int k = 0; k < count; k++) {
            x.input();
        }
        return x;
    }

    /** So many lines: an input, then gates of the nets 1, 0, 1 and so on that are the same as it. */
    static Miterhouse lines(int count) {
        Miterhouse x = inputs(1);
        for (int line = 1; line < count; line++) {
            x.gate(line % 2, 'b', 0, 0);
        }
        return x;
    }

    static Miterhouse closed(Miterhouse x, int one, int other) {
        x.output(0, one);
        x.output(1, other);
        x.close();
        return x;
    }

    static Miterhouse closed(Miterhouse x) {
        return closed(x, 0, 0);
    }

    /** An input, then all the cells that a net can have, with the names 0 to 3. */
    static Miterhouse cells(int net) {
        Miterhouse x = inputs(1);
        for (int name = 0; name < 4; name++) {
            x.cell(net, 0, name);
        }
        return x;
    }

    /**
     * Inputs 0, 1; the cells 2 of the net 0 and 3 of the net 1, both of the name 9, with the first
     * values 1 and 0; 4 is 0 and 2, the data of 2; 5 is 1 or 3, the data of 3; 6 is 0 at all choices;
     * 7 is the input 0 in the net 1; 8 is 6 turned over; 9 is 0 not and 1 in the net 1.
     */
    static Miterhouse open() {
        Miterhouse x = inputs(2);
        x.cell(0, 1, 9);
        x.cell(1, 0, 9);
        x.gate(0, 'a', 0, 2);
        x.gate(1, 'o', 1, 3);
        x.gate(0, 'x', 0, 0);
        x.gate(1, 'b', 0, 0);
        x.gate(0, 'v', 6, 0);
        x.gate(1, 'n', 0, 1);
        x.data(2, 4);
        x.data(3, 5);
        return x;
    }

    /** The same, closed with the outputs 4 and 5: four sources, ten lines. */
    static Miterhouse small() {
        return closed(open(), 4, 5);
    }

    /** Two inputs, all gates of both: of the net 0 and 2, or 3, unlike 4; of the net 1 and 5, not and 6. */
    static Miterhouse pairs() {
        Miterhouse x = inputs(2);
        x.gate(0, 'a', 0, 1);
        x.gate(0, 'o', 0, 1);
        x.gate(0, 'x', 0, 1);
        x.gate(1, 'a', 1, 0);
        x.gate(1, 'n', 0, 1);
        return closed(x, 2, 5);
    }

    /** All the sources that there can be: inputs 0 to 5, cells 6 to 9 and 10 to 13, each its own data. */
    static Miterhouse wide() {
        Miterhouse x = inputs(6);
        for (int line = 6; line < 14; line++) {
            x.cell(line < 10 ? 0 : 1, 0, line % 4);
            x.data(line, line);
        }
        return x;
    }

    /** All the lines, sources and outputs that there can be. */
    static Miterhouse largest() {
        Miterhouse x = wide();
        for (int line = 14; line < 80; line++) {
            int net = line % 2;
            int cell = (net == 0 ? 6 : 10) + line / 2 % 4;
            x.gate(net, "xaonrb".charAt(line / 2 % 6), line < 16 ? line % 6 : line - 2, line % 3 == 0 ? cell : line % 6);
        }
        for (int net = 0; net < 2; net++) {
            for (int k = 0; k < 4; k++) {
                x.data((net == 0 ? 6 : 10) + k, 70 + net + 2 * k);
                x.output(net, 72 + net + 2 * k);
            }
        }
        x.close();
        return x;
    }

    /** A new house with the nets closed, and so many patterns of choices 0 and 3 in turn. */
    static Miterhouse patterned(int count) {
        Miterhouse x = pairs();
        for (int k = 0; k < count; k++) {
            x.pattern(k % 2 * 3);
        }
        return x;
    }

    /** Four inputs; 4 the and of 0 and 1, 5 that of 2 and 3, 6 of both, 7 it turned over, 8 none of 0. */
    static Miterhouse tower() {
        Miterhouse x = inputs(4);
        x.gate(0, 'a', 0, 1);
        x.gate(0, 'a', 2, 3);
        x.gate(0, 'a', 4, 5);
        x.gate(0, 'v', 6, 0);
        x.gate(0, 'x', 0, 0);
        x.gate(0, 'v', 8, 0);
        return x;
    }
}
