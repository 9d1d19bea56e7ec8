import com.sun.management.ThreadMXBean;
import java.lang.management.ManagementFactory;
import java.util.Random;

/**
 * All calls of one run live in one room of 600,000 objects and 7.3 million fields and elements, none
 * of which is given back. Each kind of call is made again and again on houses that take the most, and
 * the bytes that all of it takes must be few enough, even if each element were of the shortest kind
 * that the class keeps many of, an int.
 */
public final class RoomTest {
    private static final ThreadMXBean MEMORY = (ThreadMXBean) ManagementFactory.getThreadMXBean();
    private static final int CALLS = 400;
    /** A quarter of the room, in bytes of int elements. */
    private static final long MOST_BYTES = 7_300_000L;

    private interface Asking {
        Object ask(Miterhouse x, int number);
    }

    private interface Maker {
        Miterhouse make();
    }

    private static int kinds;
    private static int wrong;

    public static void main(String[] args) {
        heavy(Houses::largest);
        heavy(RoomTest::mixed);
        heavy(RoomTest::tangled);
        System.out.println(kinds + " kinds of calls in one room, " + wrong + " of them take too much");
        if (wrong > 0) {
            System.exit(1);
        }
    }

    /** All sources and lines: ands and unlikes on late lines and on any ones, whose diagrams are large. */
    private static Miterhouse mixed() {
        Random random = new Random(7);
        Miterhouse x = Houses.wide();
        int[][] own = {new int[43], new int[43]};
        for (int k = 0; k < 10; k++) {
            own[0][k] = k;
            own[1][k] = k < 6 ? k : k + 4;
        }
        for (int line = 14; line < 80; line++) {
            int[] lines = own[line % 2];
            int count = 10 + (line - 14) / 2;
            int one = lines[count - 1 - random.nextInt(3)];
            int two = lines[random.nextInt(random.nextInt(2) == 0 ? 10 : count)];
            lines[count] = x.gate(line % 2, "xa".charAt(random.nextInt(2)), one, two);
        }
        for (int k = 0; k < 8; k++) {
            x.output(k % 2, 72 + k);
            x.data(6 + k, k < 4 ? 60 + 2 * k : 61 + 2 * k);
        }
        x.close();
        return x;
    }

    /** Unlikes of near lines, whose cuts are many. */
    private static Miterhouse tangled() {
        Random random = new Random(24);
        Miterhouse x = Houses.inputs(6);
        for (int line = 6; line < 80; line++) {
            int one = line - 1 - random.nextInt(6);
            x.gate(1, 'x', one, line - 1 - random.nextInt(6));
        }
        return Houses.closed(x, 0, 79);
    }

    /** In the net 1 the line 2 should be the input 0. */
    private static Miterhouse patched() {
        Miterhouse x = Houses.inputs(2);
        return Houses.closed(x, 0, x.gate(1, 'v', 1, 1));
    }

    private static void heavy(Maker maker) {
        takes("sweep", maker, (x, k) -> x.sweep(20000 - k));
        takes("prove", maker, (x, k) -> x.prove(79, k % 80, k % 2 == 0, 20000));
        takes("sift", maker, (x, k) -> k % 20 == 0 ? x.sift() : x.order(k % 2, 0));
        takes("diagram", maker, (x, k) -> x.diagram(k % 80, 9999));
        takes("allDiagrams", maker, (x, k) -> x.allDiagrams());
        takes("cuts", maker, (x, k) -> x.cuts(0, 2 + k % 3) + x.table(0, 2 + k % 3, 0) + x.cutAt(0, 2 + k % 3, 0, 0));
        takes("meanSeen", maker, (x, k) -> x.meanSeen());
        takes("constrain", maker, (x, k) -> k < 4 ? x.constrain(k % 2) + x.meanSeen() + x.reached() : x.cellClasses());
        takes("normal", maker, (x, k) -> x.normal(4, k * 163));
        takes("isSound", maker, (x, k) -> k % 10 == 0 ? x.isSound() : x.areSame(6));
        takes("states", maker, (x, k) -> x.reached() + x.trace(x.difference()));
        takes("witness", maker, (x, k) -> x.witness(k % 80, k % 80, true) + x.proof(k % 80, k % 80, false));
        takes("patterns", maker, (x, k) -> k < 64 ? x.pattern(k) : x.patterns() + x.merged(k % 80) + x.mergeProofs());
        takes("seen", maker, (x, k) -> x.isIdle(k % 80) ? x.lines() : x.seen(k % 80) + x.mergedShare());
        takes("words", maker, (x, k) -> x.coefficient(k % 2, k % 4, 3, k) + x.word(k % 2, 6, k, -k));
        takes("isInductive", maker, (x, k) -> k % 10 == 0 ? x.isInductive(20) : x.cellClasses());
        takes("isInvariant", maker, (x, k) -> x.isInvariant(k % 80));
        takes("run", maker, (x, k) -> x.run(k % 2, 30, 0));
        takes("literal", maker, (x, k) -> x.literal(k % 80) + x.value(k % 80, 0) + x.pin(15 + k % 3, true));
        takes("patch", RoomTest::patched, (x, k) -> x.patch(2, 0, k % 2 == 0 ? -1 : 1, -1, -1));
        takes("correspond", Houses::largest, (x, k) -> x.correspond(6, 6 + k % 8, k % 2 == 0));
        takes("signature", maker, (x, k) -> x.signature(k % 80) + x.candidates(k % 80));
    }

    private static void takes(String what, Maker maker, Asking call) {
        kinds++;
        maker.make();
        long before = MEMORY.getCurrentThreadAllocatedBytes();
        Miterhouse x = maker.make();
        for (int k = 0; k < CALLS; k++) {
            call.ask(x, k);
        }
        long bytes = MEMORY.getCurrentThreadAllocatedBytes() - before;
        if (bytes > MOST_BYTES) {
            wrong++;
            System.out.println(what + " takes " + bytes + " bytes");
        }
    }
}
