import java.util.ArrayList;
import java.util.List;

/**
 * All that a house holds, as one text: two houses that tell the same hold the same. The telling
 * ends by calls that change the house, as only these tell what is told of it so far; with the calls
 * that made the house it stays below the 512 that the document allows.
 */
final class Telling {
    private static final int MOST_CALLS = 400;
    private static final int MOST_LINES = 9;

    private final Miterhouse house;
    private final StringBuilder told = new StringBuilder();
    private final List<Integer> some = new ArrayList<>();
    private int calls;

    private Telling(Miterhouse x) {
        house = x;
    }

    static String of(Miterhouse x) {
        Telling telling = new Telling(x);
        telling.tellAll();
        if (telling.calls > MOST_CALLS) {
            throw new IllegalStateException("the telling takes " + telling.calls + " calls");
        }
        return telling.told.toString();
    }

    private Object tell(String what, Edges.Asking call) {
        calls++;
        Object answer = Edges.answer(house, call);
        told.append(what).append(' ').append(answer).append('\n');
        return answer;
    }

    private void tellAll() {
        tellNumbers();
        if (tell("ands", Miterhouse::ands) instanceof Integer) {
            tellClosed();
        } else {
            tellOpen();
        }
        for (int at = 0; at < 32; at++) {
            int[] of = {at / 16, at / 4 % 4, at % 4};
            tell("coefficient " + at, x -> x.coefficient(of[0], of[1], of[2], 0));
        }
    }

    private void tellNumbers() {
        int lines = (int) tell("lines", Miterhouse::lines);
        for (int line = 0; line < lines; line++) {
            if (line < MOST_LINES || line >= lines - 3) {
                some.add(line);
            }
        }
        tell("patterns", Miterhouse::patterns);
        tell("mergeProofs", Miterhouse::mergeProofs);
        tell("mergedShare", Miterhouse::mergedShare);
        tell("isSound", Miterhouse::isSound);
        for (int line : some) {
            tell("merged " + line, x -> x.merged(line));
        }
    }

    /** What was told before the nets are closed comes out as more is told, then by closing them. */
    private void tellOpen() {
        for (int line : some) {
            tell("data " + line, x -> x.data(line, line));
        }
        for (int net = 0; net < 2; net++) {
            int n = net;
            for (int line : some) {
                tell("output " + net + " " + line, x -> x.output(n, line));
            }
            for (int name = 0; name < 10; name++) {
                int m = name;
                if (tell("cell " + net + " " + name, x -> x.cell(n, 0, m)) instanceof Integer line) {
                    tell("data", x -> x.data(line, line));
                }
            }
        }
        for (int k = 0; k < 7; k++) {
            tell("input", Miterhouse::input);
        }
        tell("gate", x -> x.gate(0, 'v', 0, 0));
        tell("gate", x -> x.gate(1, 'v', 0, 0));
        if (tell("close", Miterhouse::close) instanceof Integer) {
            tellClosed();
        }
    }

    private void tellClosed() {
        int sources = 0;
        while (tell("placeOf " + sources, place(sources)) instanceof Integer) {
            sources++;
        }
        for (int line : some) {
            tellLine(line, (1 << sources) - 1);
        }
        for (int node = sources + 1; node < sources + 9; node++) {
            int n = node;
            tell("pin " + node, x -> x.pin(n, true));
            tell("pin " + node, x -> x.pin(n, false));
        }
        tell("allDiagrams", Miterhouse::allDiagrams);
        tell("meanSeen", Miterhouse::meanSeen);
        tell("cellClasses", Miterhouse::cellClasses);
        tell("reached", Miterhouse::reached);
        tell("difference", Miterhouse::difference);
        tell("trace", x -> x.trace(0));
        tell("isInductive", x -> x.isInductive(1));
        for (int net = 0; net < 2; net++) {
            int n = net;
            tell("run " + net, x -> x.run(n, 0, 0));
            tell("run " + net, x -> x.run(n, 2, 1));
        }
        tellChanges((1 << sources) - 1);
    }

    private static Edges.Asking place(int source) {
        return x -> x.placeOf(source);
    }

    private void tellLine(int line, int last) {
        tell("value " + line, x -> x.value(line, 0));
        tell("value " + line, x -> x.value(line, last));
        tell("value " + line, x -> x.value(line, last / 3));
        tell("literal " + line, x -> x.literal(line));
        tell("signature " + line, x -> x.signature(line));
        tell("candidates " + line, x -> x.candidates(line));
        tell("diagram " + line, x -> x.diagram(line, 9999));
        tell("cuts " + line, x -> x.cuts(line, 3));
        tell("seen " + line, x -> x.seen(line));
        tell("isInvariant " + line, x -> x.isInvariant(line));
    }

    private void tellChanges(int last) {
        tell("sweep", x -> x.sweep(2));
        tell("patterns", Miterhouse::patterns);
        tell("pattern", x -> x.pattern(last));
        for (int line : some) {
            tell("constrain " + line, x -> x.constrain(line));
        }
        tell("order", x -> x.order(0, 0));
        tell("sift", Miterhouse::sift);
    }
}
