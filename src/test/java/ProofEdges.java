/** The edges of promises 10 to 22: ands, patterns, proofs and sweeping. */
final class ProofEdges extends Edges {
    private ProofEdges() {
    }

    static void run() {
        literals();
        ands();
        pins();
        patternNumbers();
        patternRefusals();
        signatures();
        candidates();
        proving();
        budgets();
        proofs();
        witnesses();
        sweeping();
        sweepingFull();
        merges();
    }

    private static void literals() {
        sentence("Promise 10: the number of the line");
        limits(INDEX, Houses::small, 0, 2, 9, 15, (x, line) -> x.literal(line));
        sentence("Promise 10: the node 0 is false, and 1 more if it is inverted");
        due(0, Houses.small().literal(6));
        due(1, Houses.small().literal(8));
        sentence("Promise 10: the nodes from 1 on are the sources, inputs first");
        Miterhouse wide = Houses.closed(Houses.wide());
        for (int line = 0; line < 14; line++) {
            due(2 * line + 2, wide.literal(line));
        }
        Miterhouse mixed = new Miterhouse();
        mixed.cell(0, 0, 0);
        mixed.input();
        mixed.data(0, 1);
        Houses.closed(mixed, 1, 1);
        due(4, mixed.literal(0));
        due(2, mixed.literal(1));
        sentence("Promise 10: the nets are not closed");
        refused(CANNOT, Houses::open, x -> x.literal(0));
        sentence("Promise 10: no such line, and not closed: no such line is told");
        refused(INDEX, Houses::open, x -> x.literal(10));
        refused(INDEX, Houses::open, x -> x.literal(-1));
    }

    private static void ands() {
        sentence("Promise 11: the number of and nodes, from none on");
        due(0, Houses.closed(Houses.inputs(1)).ands());
        due(0, Houses.closed(Houses.lines(80)).ands());
        due(3, Houses.small().ands());
        sentence("Promise 11: the most and nodes that there can be, three by an unlike");
        due(234, unlikes().ands());
        due(472, unlikes().literal(79));
        sentence("Promise 11: the nets are not closed");
        refused(CANNOT, Houses::open, Miterhouse::ands);
    }

    /** Two inputs and 78 gates, each unlike of the line before and one of the inputs. */
    private static Miterhouse unlikes() {
        Miterhouse x = Houses.inputs(2);
        for (int line = 2; line < 80; line++) {
            x.gate(0, 'x', line - 1, line % 2);
        }
        return Houses.closed(x, 79, 0);
    }

    private static void pins() {
        sentence("Promise 12: the number of the node, the first one behind the sources");
        limits(NONE, Houses::small, 5, 2, 7, 2, (x, node) -> x.pin(node, true));
        limits(NONE, Houses::small, 5, 6, 7, 4, (x, node) -> x.pin(node, false));
        limits(NONE, ProofEdges::unlikes, 3, 2, 236, 469, (x, node) -> x.pin(node, true));
        limits(NONE, ProofEdges::unlikes, 3, 4, 236, 471, (x, node) -> x.pin(node, false));
        sentence("Promise 12: it is no and, but the node 0 or a source");
        for (int node = 0; node < 5; node++) {
            int n = node;
            refused(NONE, Houses::small, x -> x.pin(n, true));
            refused(NONE, Houses::small, x -> x.pin(n, false));
        }
        sentence("Promise 12: there is no and at all");
        beyond(NONE, () -> Houses.closed(Houses.inputs(1)), 0, 1, (x, node) -> x.pin(node, true));
        sentence("Promise 12: the nets are not closed, and it is no and: not closed is told");
        refused(CANNOT, Houses::open, x -> x.pin(5, true));
        refused(CANNOT, Houses::open, x -> x.pin(-1, false));
        refused(CANNOT, Houses::open, x -> x.pin(Integer.MAX_VALUE, false));
    }

    private static void patternNumbers() {
        sentence("Promise 13: the choice, 0 to less than 2 to the power of the sources");
        limits(RANGE, Houses::pairs, 0, 0, 3, 0, (x, choice) -> x.pattern(choice));
        limits(RANGE, () -> Houses.closed(Houses.inputs(1)), 0, 0, 1, 0, (x, choice) -> x.pattern(choice));
        limits(RANGE, () -> Houses.closed(Houses.wide()), 0, 0, 16383, 0, (x, choice) -> x.pattern(choice));
        sentence("Promise 13: returns its number, from 0, of the same choice again too");
        Miterhouse x = Houses.pairs();
        for (int k = 0; k < 64; k++) {
            due(k, x.patterns());
            due(k, x.pattern(2));
        }
        due(64, x.patterns());
        sentence("Promise 13: the 64th pattern fills the place, the 65th finds it full");
        due(63, Houses.patterned(63).pattern(1));
        refused(FULL, () -> Houses.patterned(64), y -> y.pattern(0));
        refused(FULL, () -> Houses.patterned(64), y -> y.pattern(3));
    }

    private static void patternRefusals() {
        sentence("Promise 13: the nets are not closed");
        refused(CANNOT, Houses::open, x -> x.pattern(0));
        sentence("Promise 13: it does not keep a constraint");
        refused(CANNOT, ProofEdges::constrained, x -> x.pattern(0));
        refused(CANNOT, ProofEdges::constrained, x -> x.pattern(2));
        due(5, constrained().pattern(1));
        due(5, constrained().pattern(3));
        sentence("Promise 13: they stay, as constraints are told later");
        due(5, constrained().patterns());
        due(10L, constrained().signature(0));
        sentence("Promise 13: no such choice, and not closed, or full: no such choice is told");
        refused(RANGE, Houses::open, x -> x.pattern(16));
        refused(RANGE, Houses::open, x -> x.pattern(-1));
        refused(RANGE, () -> Houses.patterned(64), x -> x.pattern(4));
        refused(RANGE, ProofEdges::constrained, x -> x.pattern(-2));
        sentence("Promise 13: a constraint is not kept, and full: that it cannot be is told");
        refused(CANNOT, ProofEdges::constrainedFull, x -> x.pattern(2));
        refused(FULL, ProofEdges::constrainedFull, x -> x.pattern(3));
    }

    /** Five patterns, of which three do not keep the constraint that is told then. */
    private static Miterhouse constrained() {
        Miterhouse x = Houses.patterned(5);
        x.constrain(0);
        return x;
    }

    private static Miterhouse constrainedFull() {
        Miterhouse x = Houses.patterned(64);
        x.constrain(0);
        return x;
    }

    private static void signatures() {
        sentence("Promise 14: the number of the line");
        limits(INDEX, () -> Houses.patterned(3), 0, 2L, 6, 5L, (x, line) -> x.signature(line));
        sentence("Promise 14: no patterns");
        due(0L, Houses.pairs().signature(6));
        sentence("Promise 14: the bit k is the pattern k, up to the 64th");
        due(1L, Houses.patterned(1).signature(6));
        due(0xAAAAAAAAAAAAAAAAL, Houses.patterned(64).signature(0));
        due(0x5555555555555555L, Houses.patterned(64).signature(6));
        Miterhouse x = Houses.pairs();
        for (int k = 0; k < 64; k++) {
            x.pattern(k < 63 ? 2 : 1);
        }
        due(Long.MIN_VALUE, x.signature(0));
        due(Long.MAX_VALUE, x.signature(1));
        due(-1L, x.signature(3));
        due(0L, x.signature(2));
        sentence("Promise 14: the nets are not closed");
        refused(CANNOT, Houses::open, y -> y.signature(0));
        sentence("Promise 14: no such line, and not closed: no such line is told");
        refused(INDEX, Houses::open, y -> y.signature(10));
    }

    private static void candidates() {
        sentence("Promise 15: the number of the line");
        limits(INDEX, () -> Houses.patterned(2), 0, 5, 6, 5, (x, line) -> x.candidates(line));
        sentence("Promise 15: no patterns, so that all others are candidates");
        for (int line = 0; line < 7; line++) {
            due(6, Houses.pairs().candidates(line));
        }
        due(79, Houses.closed(Houses.lines(80)).candidates(79));
        sentence("Promise 15: it is left out, alone too");
        due(0, Houses.closed(Houses.inputs(1)).candidates(0));
        sentence("Promise 15: one is the other one turned over, in all of one, 63 and 64 patterns");
        for (int count : new int[] {1, 2, 63, 64}) {
            Miterhouse x = Houses.closed(turnedLines());
            for (int k = 0; k < count; k++) {
                x.pattern(k % 2);
            }
            due(2, x.candidates(0));
            due(2, x.candidates(1));
        }
        sentence("Promise 15: the last pattern alone parts them");
        for (int count : new int[] {1, 2, 63, 64}) {
            Miterhouse x = Houses.pairs();
            for (int k = 1; k < count; k++) {
                x.pattern(0);
            }
            due(6, x.candidates(3));
            x.pattern(1);
            due(count == 1 ? 6 : 2, x.candidates(3));
        }
        sentence("Promise 15: merged lines are candidates as well");
        Miterhouse merged = Houses.patterned(2);
        merged.sweep(20000);
        due(4, merged.merged(5));
        due(2, merged.candidates(5));
        sentence("Promise 15: the nets are not closed");
        refused(CANNOT, Houses::open, x -> x.candidates(0));
        sentence("Promise 15: no such line, and not closed: no such line is told");
        refused(INDEX, Houses::open, x -> x.candidates(10));
    }

    /** An input, it turned over in the net 0, and the same in the net 1. */
    private static Miterhouse turnedLines() {
        Miterhouse x = Houses.inputs(1);
        x.gate(0, 'v', 0, 0);
        x.gate(1, 'b', 0, 0);
        return x;
    }

    private static void proving() {
        sentence("Promise 16: the number of the line");
        limits(INDEX, Houses::pairs, 0, 'd', 6, 'e', (x, line) -> x.prove(line, 2, true, 9));
        sentence("Promise 16: the number of the other line");
        limits(INDEX, Houses::pairs, 0, 'd', 6, 'e', (x, other) -> x.prove(2, other, true, 9));
        sentence("Promise 16: the other line is the same one");
        due('e', Houses.pairs().prove(6, 6, false, 9));
        due('d', Houses.pairs().prove(6, 6, true, 9));
        sentence("Promise 16: the nets are not closed");
        refused(CANNOT, Houses::open, x -> x.prove(0, 1, false, 1));
        refused(CANNOT, Houses::open, x -> x.prove(0, 0, false, 20000));
        sentence("Promise 16: no such line, and the budget out of range, or not closed: no such line is told");
        refused(INDEX, Houses::pairs, x -> x.prove(7, 0, false, 0));
        refused(INDEX, Houses::pairs, x -> x.prove(0, 7, false, 20001));
        refused(INDEX, Houses::open, x -> x.prove(-1, 0, false, 1));
        refused(INDEX, Houses::open, x -> x.prove(0, 10, false, 1));
        sentence("Promise 16: the budget out of range, and not closed: the budget is told");
        refused(RANGE, Houses::open, x -> x.prove(0, 0, false, 0));
        refused(RANGE, Houses::open, x -> x.prove(0, 0, false, 20001));
    }

    private static void budgets() {
        sentence("Promise 16: the budget, 1 to 20000");
        limits(RANGE, () -> Houses.closed(Houses.inputs(1)), 1, 'u', 20000, 'e', (x, most) -> x.prove(0, 0, false, most));
        limits(RANGE, () -> Houses.closed(Houses.wide()), 1, 'u', 20000, 'e', (x, most) -> x.prove(13, 13, false, most));
        sentence("Promise 16: gives up as more leaves than this are needed, not at as many");
        due('u', Houses.closed(Houses.inputs(1)).prove(0, 0, false, 1));
        due('e', Houses.closed(Houses.inputs(1)).prove(0, 0, false, 2));
        due('u', Houses.pairs().prove(2, 5, false, 2));
        due('e', Houses.pairs().prove(2, 5, false, 3));
        Miterhouse wide = Houses.closed(Houses.wide());
        for (int source = 0; source < 14; source++) {
            due('u', wide.prove(source, source, false, (2 << source) - 1));
            due('e', wide.prove(source, source, false, 2 << source));
        }
        sentence("Promise 16: where they differ is no leaf");
        due('d', Houses.pairs().prove(0, 0, true, 1));
        due('d', Houses.pairs().prove(2, 3, false, 1));
        due('u', Houses.pairs().prove(3, 4, false, 2));
        due('d', Houses.pairs().prove(3, 4, false, 3));
        due('d', wide.prove(13, 12, false, 1));
        due('d', wide.prove(13, 0, true, 1));
        deepDifferences();
        sentence("Promise 16: leaves behind the first difference are not needed");
        due('d', wide.prove(13, 13, true, 1));
        due('d', Houses.pairs().prove(6, 2, false, 1));
    }

    /** The 7th source of fourteen, and it where the first source is 0, or where not all first six are 1. */
    private static void deepDifferences() {
        Miterhouse x = Houses.wide();
        int early = x.gate(0, 'a', 6, x.gate(0, 'v', 0, 0));
        int all = x.gate(0, 'a', 0, 1);
        for (int line = 2; line < 6; line++) {
            all = x.gate(0, 'a', all, line);
        }
        int late = x.gate(0, 'a', 6, x.gate(0, 'v', all, 0));
        int last = x.gate(0, 'a', 9, x.gate(0, 'v', all, 0));
        Houses.closed(x);
        sentence("Promise 16: as many leaves as stand in front of a difference, and one less");
        due('u', x.prove(6, early, false, 64));
        due('d', x.prove(6, early, false, 65));
        due('u', x.prove(6, late, false, 126));
        due('d', x.prove(late, 6, false, 127));
        due(1 + 64, x.witness(6, early, false));
        due(127, x.witness(6, late, false));
        due('u', x.prove(9, last, false, 63 * 16));
        due('d', x.prove(last, 9, false, 63 * 16 + 1));
        due(63 + 512, x.witness(9, last, false));
    }

    private static void proofs() {
        sentence("Promise 17: the number of the line");
        limits(INDEX, ProofEdges::turnedClosed, 0, 2, 2, 2, (x, line) -> x.proof(line, 0, false));
        sentence("Promise 17: the number of the other line");
        limits(INDEX, ProofEdges::turnedClosed, 0, 2, 2, 2, (x, other) -> x.proof(2, other, false));
        sentence("Promise 17: the number of leaves, from 2 to 2 to the power of the sources");
        Miterhouse wide = Houses.closed(Houses.wide());
        for (int source = 0; source < 14; source++) {
            due(2 << source, wide.proof(source, source, false));
        }
        sentence("Promise 17: a gate gives what it gives for all that its unknown ones can be");
        int[] leaves = {3, 3, 4, 3, 3, 2, 2};
        for (int k = 0; k < 7; k++) {
            Miterhouse x = Houses.inputs(2);
            x.gate(0, "aoxnrbv".charAt(k), 0, 1);
            x.gate(1, 'b', 0, 0);
            due(leaves[k], Houses.closed(x, 2, 3).proof(2, 2, false));
        }
        sentence("Promise 17: each by itself, so that a line and itself turned over are unknown");
        Miterhouse y = Houses.small();
        due(2, y.proof(6, 8, true));
        sentence("Promise 17: some constraint is known to be 0");
        Miterhouse constrained = Houses.pairs();
        constrained.constrain(1);
        due(4, constrained.proof(1, 3, false));
        constrained.constrain(0);
        due(3, constrained.proof(1, 3, false));
        sentence("Promise 17: they differ");
        refused(NONE, Houses::pairs, x -> x.proof(2, 3, false));
        refused(NONE, Houses::pairs, x -> x.proof(2, 5, true));
        refused(NONE, Houses::pairs, x -> x.proof(0, 0, true));
        sentence("Promise 17: the nets are not closed");
        refused(CANNOT, Houses::open, x -> x.proof(0, 0, false));
        refused(CANNOT, Houses::open, x -> x.proof(0, 1, true));
        sentence("Promise 17: no such line, and not closed: no such line is told");
        refused(INDEX, Houses::open, x -> x.proof(10, 0, false));
        refused(INDEX, Houses::open, x -> x.proof(0, -1, false));
    }

    private static Miterhouse turnedClosed() {
        return Houses.closed(turnedLines());
    }

    private static void witnesses() {
        sentence("Promise 18: the number of the line");
        limits(INDEX, ProofEdges::turnedClosed, 0, 0, 2, 0, (x, line) -> x.witness(line, 0, true));
        sentence("Promise 18: the number of the other line");
        limits(INDEX, ProofEdges::turnedClosed, 0, 0, 2, 0, (x, other) -> x.witness(2, other, true));
        sentence("Promise 18: the choice at which they differ first, from 0 to the greatest");
        Miterhouse wide = Houses.closed(Houses.wide());
        for (int source = 0; source < 14; source++) {
            due(0, wide.witness(source, source, true));
            due(1 << 13, wide.witness(source, source < 13 ? 13 : 12, false));
        }
        for (int count = 2; count <= 6; count++) {
            Miterhouse x = Houses.inputs(count);
            int all = 0;
            for (int line = 1; line < count; line++) {
                all = x.gate(0, 'a', all, line);
            }
            int none = x.gate(0, 'x', 0, 0);
            due((1 << count) - 1, Houses.closed(x).witness(all, none, false));
        }
        sentence("Promise 18: a choice that keeps no constraint is none");
        Miterhouse x = Houses.pairs();
        due(2, x.witness(2, 3, false));
        x.constrain(0);
        due(1, x.witness(2, 3, false));
        sentence("Promise 18: they are the same");
        refused(NONE, Houses::pairs, y -> y.witness(2, 5, false));
        refused(NONE, Houses::pairs, y -> y.witness(2, 6, true));
        refused(NONE, Houses::pairs, y -> y.witness(1, 1, false));
        sentence("Promise 18: the nets are not closed");
        refused(CANNOT, Houses::open, y -> y.witness(0, 1, false));
        refused(CANNOT, Houses::open, y -> y.witness(0, 0, false));
        sentence("Promise 18: no such line, and not closed: no such line is told");
        refused(INDEX, Houses::open, y -> y.witness(-1, 0, true));
        refused(INDEX, Houses::open, y -> y.witness(0, 10, true));
    }

    private static void sweeping() {
        sentence("Promise 19: the budget, 1 to 20000");
        limits(RANGE, () -> Houses.closed(Houses.lines(80)), 1, 0, 20000, 79, (x, budget) -> x.sweep(budget));
        sentence("Promise 19: the proof has as many leaves as the budget, and one more");
        due(0, Houses.patterned(2).sweep(2));
        due(2, Houses.patterned(2).sweep(3));
        due(0, twice().sweep(63));
        due(1, twice().sweep(64));
        sentence("Promise 19: returns how many lines are merged in all, not just now");
        Miterhouse x = Houses.patterned(2);
        due(2, x.sweep(3));
        due(2, x.sweep(20000));
        due(2, x.sweep(1));
        sentence("Promise 19: nothing can be merged");
        due(0, Houses.closed(Houses.inputs(1)).sweep(20000));
        due(0, Houses.closed(Houses.wide()).sweep(20000));
        sentence("Promise 19: the nets are not closed");
        refused(CANNOT, Houses::open, y -> y.sweep(1));
        refused(CANNOT, Houses::open, y -> y.sweep(20000));
        sentence("Promise 19: the budget out of range, and not closed: the budget is told");
        refused(RANGE, Houses::open, y -> y.sweep(0));
        refused(RANGE, Houses::open, y -> y.sweep(20001));
    }

    /** Six inputs, and the last one again; patterns part the inputs. */
    private static Miterhouse twice() {
        Miterhouse x = Houses.inputs(6);
        x.gate(1, 'b', 5, 0);
        Houses.closed(x);
        for (int choice : new int[] {0, 42, 12, 48}) {
            x.pattern(choice);
        }
        return x;
    }

    private static void sweepingFull() {
        sentence("Promise 19: one that differs gives the 64th pattern, and no 65th");
        for (int count = 60; count <= 64; count++) {
            Miterhouse x = Houses.pairs();
            for (int k = 0; k < count; k++) {
                x.pattern(0);
            }
            due(2, x.sweep(20000));
            due(Math.min(64, count + 3), x.patterns());
            long ofFirst = 0L;
            long ofSecond = 0L;
            int[] witnesses = {2, 1, 3};
            for (int k = count; k < 64 && k < count + 3; k++) {
                ofFirst |= (witnesses[k - count] & 1L) << k;
                ofSecond |= (witnesses[k - count] >> 1 & 1L) << k;
            }
            due(ofFirst, x.signature(0));
            due(ofSecond, x.signature(1));
        }
        sentence("Promise 19: one that is given up gives no pattern and is not merged");
        Miterhouse y = Houses.closed(Houses.inputs(2));
        y.pattern(0);
        due(0, y.sweep(1));
        due(2, y.patterns());
        Miterhouse z = twice();
        due(0, z.sweep(63));
        due(4, z.patterns());
        due(12, z.merged(6));
        sentence("Promise 19: all lines but one are merged");
        Miterhouse all = Houses.closed(Houses.lines(80));
        due(79, all.sweep(2));
        due(158L, all.mergeProofs());
        due(79f / 80f, all.mergedShare());
        due(0, all.merged(0));
        due(0, all.merged(1));
        due(0, all.merged(79));
    }

    private static void merges() {
        sentence("Promise 20: the number of the line");
        limits(INDEX, () -> Houses.lines(80), 0, 0, 79, 158, (x, line) -> x.merged(line));
        limits(INDEX, () -> Houses.patterned(3), 0, 0, 6, 12, (x, line) -> x.merged(line));
        sentence("Promise 20: of one that is not merged, 2 times itself");
        for (int line = 0; line < 10; line++) {
            due(2 * line, Houses.open().merged(line));
            due(2 * line, Houses.small().merged(line));
        }
        sentence("Promise 20: 2 times that line, and 1 more if it is inverted");
        Miterhouse x = Houses.patterned(3);
        x.sweep(3);
        due(4, x.merged(2));
        due(4, x.merged(5));
        due(5, x.merged(6));
        Miterhouse y = turnedClosed();
        y.pattern(0);
        y.sweep(2);
        due(1, y.merged(1));
        due(0, y.merged(2));
        sentence("Promise 21: the sum of the sizes, 0 without merges");
        due(0L, Houses.lines(80).mergeProofs());
        due(0L, Houses.small().mergeProofs());
        due(6L, x.mergeProofs());
        due(4L, y.mergeProofs());
        sentence("Promise 21: a line that is merged stays so, with the size of its proof");
        x.constrain(0);
        x.sweep(20000);
        due(5, x.merged(6));
        due(6L, x.mergeProofs());
        sentence("Promise 22: the number of patterns, 0 to 64");
        due(0, Houses.open().patterns());
        due(0, Houses.small().patterns());
        due(1, Houses.patterned(1).patterns());
        due(64, Houses.patterned(64).patterns());
    }
}
