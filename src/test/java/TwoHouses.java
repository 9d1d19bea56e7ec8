import java.lang.reflect.InvocationTargetException;
import java.lang.reflect.Method;
import java.lang.reflect.Modifier;
import java.util.ArrayList;
import java.util.Arrays;
import java.util.List;
import java.util.Map;
import java.util.TreeMap;

/** A Miterhouse and a PlainHouse that are asked the same: the first answer that is not is kept. */
final class TwoHouses {
    private static final Map<String, Method> HOUSE = methodsOf(Miterhouse.class);
    private static final Map<String, Method> PLAIN = methodsOf(PlainHouse.class);

    final Miterhouse house = new Miterhouse();
    final List<String> history = new ArrayList<>();
    private final PlainHouse plain = new PlainHouse();
    private String wrong;

    private static Map<String, Method> methodsOf(Class<?> owner) {
        Map<String, Method> all = new TreeMap<>();
        for (Method m : owner.getDeclaredMethods()) {
            if (Modifier.isPublic(m.getModifiers())) {
                all.put(m.getName(), m);
            }
        }
        return all;
    }

    /** The names of all calls, in the order of the alphabet. */
    static List<String> names() {
        return new ArrayList<>(HOUSE.keySet());
    }

    static Class<?>[] kindsOf(String name) {
        return HOUSE.get(name).getParameterTypes();
    }

    private static String answer(Method method, Object on, Object[] args) {
        try {
            return String.valueOf(method.invoke(on, args));
        } catch (InvocationTargetException e) {
            return e.getCause().getClass().getName();
        } catch (IllegalAccessException e) {
            throw new IllegalStateException(e);
        }
    }

    /** The number that both answer, -1 for an exception; nothing is asked behind a wrong answer. */
    int call(String name, Object... args) {
        if (isWrong()) {
            return -1;
        }
        String got = answer(HOUSE.get(name), house, args);
        String due = answer(PLAIN.get(name), plain, args);
        String row = name + Arrays.toString(args) + " = " + got;
        history.add(row);
        if (!got.equals(due)) {
            wrong = row + ", due is " + due;
        }
        try {
            return Integer.parseInt(got);
        } catch (NumberFormatException e) {
            return -1;
        }
    }

    boolean isWrong() {
        return wrong != null;
    }

    void tell(String run) {
        System.out.println(run + ": " + wrong);
        history.forEach(System.out::println);
    }
}
