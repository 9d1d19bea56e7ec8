import java.util.NoSuchElementException;
import java.util.Objects;

/**
 * What the tests of edges stand on. Each test names a sentence of the document; a refused call is
 * made on a house of its own, whose twin is spared it: both must then tell the same of all they hold.
 */
abstract class Edges {
    static final Class<? extends Exception> RANGE = IllegalArgumentException.class;
    static final Class<? extends Exception> INDEX = IndexOutOfBoundsException.class;
    static final Class<? extends Exception> CANNOT = UnsupportedOperationException.class;
    static final Class<? extends Exception> FULL = IllegalStateException.class;
    static final Class<? extends Exception> NONE = NoSuchElementException.class;
    static final Class<? extends Exception> NOTHING = ArithmeticException.class;

    private static String sentence = "";
    private static int sentences;
    private static int checks;
    private static int wrong;

    interface Maker {
        Miterhouse make();
    }

    interface Asking {
        Object ask(Miterhouse x);
    }

    interface ByNumber {
        Object ask(Miterhouse x, int number);
    }

    static void sentence(String text) {
        sentence = text;
        sentences++;
    }

    static boolean areAllRight() {
        System.out.println(sentences + " sentences at their edges, " + checks + " checks, " + wrong + " wrong");
        return wrong == 0;
    }

    static void due(Object want, Object got) {
        checks++;
        if (!Objects.equals(want, got)) {
            wrong++;
            System.out.println(sentence + ": answered " + got + ", due is " + want + place());
        }
    }

    private static String place() {
        for (StackTraceElement each : new Throwable().getStackTrace()) {
            if (!each.getClassName().equals("Edges")) {
                return " (" + each.getFileName() + ":" + each.getLineNumber() + ")";
            }
        }
        return "";
    }

    /** The answer, or the class of what is thrown. */
    static Object answer(Miterhouse x, Asking call) {
        try {
            return call.ask(x);
        } catch (RuntimeException e) {
            return e.getClass();
        }
    }

    /** The call is refused, and the house is then as one that was never asked. */
    static void refused(Class<? extends Exception> want, Maker maker, Asking call) {
        Miterhouse asked = maker.make();
        due(want, answer(asked, call));
        due(Telling.of(maker.make()), Telling.of(asked));
    }

    /** Refused for the numbers just beyond both ends, and for the least and the greatest int. */
    static void beyond(Class<? extends Exception> want, Maker maker, int least, int greatest, ByNumber call) {
        for (int number : new int[] {least - 1, greatest + 1, Integer.MIN_VALUE, Integer.MAX_VALUE}) {
            refused(want, maker, x -> call.ask(x, number));
        }
    }

    /** Taken at both ends, each on a new house, and refused beyond them. */
    static void limits(Class<? extends Exception> want, Maker maker, int least, Object atLeast,
            int greatest, Object atGreatest, ByNumber call) {
        due(atLeast, answer(maker.make(), x -> call.ask(x, least)));
        due(atGreatest, answer(maker.make(), x -> call.ask(x, greatest)));
        beyond(want, maker, least, greatest, call);
    }
}
