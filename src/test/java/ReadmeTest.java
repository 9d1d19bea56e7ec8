import java.io.IOException;
import java.lang.reflect.InvocationTargetException;
import java.lang.reflect.Method;
import java.nio.file.Files;
import java.nio.file.Path;
import java.util.regex.Matcher;
import java.util.regex.Pattern;

/** Makes each call of README.md's example on one house: the answer must be the one behind it. */
public final class ReadmeTest {
    private static final Pattern ROW = Pattern.compile("x\\.(\\w+)\\((.*)\\); +// ([^:]+)(:.*)?");
    private static final int LEAST_CALLS = 40;

    public static void main(String[] args) throws IOException {
        String text = Files.readString(Path.of("README.md"));
        String example = text.split("```java\n")[1].split("```")[0];
        Miterhouse x = new Miterhouse();
        int calls = 0;
        int wrong = 0;
        for (String row : example.split("\n")) {
            Matcher parts = ROW.matcher(row);
            if (parts.matches()) {
                calls++;
                String got = answer(x, parts.group(1), parts.group(2));
                if (!got.equals(parts.group(3))) {
                    wrong++;
                    System.out.println(row + " answered " + got);
                }
            } else if (!row.isEmpty() && !row.equals("Miterhouse x = new Miterhouse();")) {
                wrong++;
                System.out.println("no call with its answer: " + row);
            }
        }
        System.out.println(calls + " calls of the example, " + wrong + " wrong");
        if (wrong > 0 || calls < LEAST_CALLS) {
            System.exit(1);
        }
    }

    private static String answer(Miterhouse x, String name, String list) {
        String[] texts = list.isEmpty() ? new String[0] : list.split(", ");
        for (Method m : Miterhouse.class.getMethods()) {
            if (m.getName().equals(name) && m.getParameterCount() == texts.length) {
                Object[] args = new Object[texts.length];
                for (int k = 0; k < texts.length; k++) {
                    args[k] = argument(texts[k]);
                }
                return answer(x, m, args);
            }
        }
        return "no such call";
    }

    private static Object argument(String text) {
        if (text.equals("true") || text.equals("false")) {
            return text.equals("true");
        }
        return text.charAt(0) == '\'' ? (Object) text.charAt(1) : (Object) Integer.parseInt(text);
    }

    private static String answer(Miterhouse x, Method call, Object[] args) {
        try {
            Object got = call.invoke(x, args);
            return got instanceof Character ? "'" + got + "'" : String.valueOf(got);
        } catch (InvocationTargetException e) {
            return e.getCause().getClass().getSimpleName();
        } catch (IllegalAccessException e) {
            throw new IllegalStateException(e);
        }
    }
}
