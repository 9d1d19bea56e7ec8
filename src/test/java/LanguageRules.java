import java.lang.reflect.Constructor;
import java.lang.reflect.Field;
import java.lang.reflect.Member;
import java.lang.reflect.Method;
import java.lang.reflect.Modifier;
import java.io.IOException;
import java.nio.file.Files;
import java.nio.file.Path;
import java.util.ArrayList;
import java.util.Arrays;
import java.util.List;
import java.util.Map;
import java.util.NoSuchElementException;
import java.util.Set;
import java.util.TreeSet;
import java.util.regex.Matcher;
import java.util.regex.Pattern;
import java.util.stream.Collectors;

/** The rules of LANGUAGE.md, and the document's face, as far as a look at the file and the class tells. */
public final class LanguageRules {
    /** Each call with the exceptions that it declares, in their order. */
    private static final String FACE = "boolean areSame(int) range, boolean correspond(int,int,boolean) index cannot, boolean "
            + "isIdle(int) index cannot, boolean isInductive(int) range cannot, boolean isInvariant(int) "
            + "index cannot, boolean isSound(), char prove(int,int,boolean,int) index range cannot, double "
            + "meanSeen() cannot nothing, float mergedShare() nothing, int allDiagrams() cannot, int ands() "
            + "cannot, int candidates(int) index cannot, int cell(int,int,int) range cannot full, int "
            + "cellClasses() cannot, int close() cannot, int coefficient(int,int,int,int) range, int "
            + "constrain(int) index cannot full, int cutAt(int,int,int,int) index range cannot none, int "
            + "cuts(int,int) index range cannot, int data(int,int) index cannot, int diagram(int,int) index "
            + "range cannot, int difference() cannot, int gate(int,char,int,int) range index cannot full, "
            + "int input() cannot full, int lines(), int literal(int) index cannot, int merged(int) index, "
            + "int normal(int,int) range, int order(int,int) cannot range, int output(int,int) range index "
            + "cannot full, int patch(int,int,int,int,int) index range cannot none, int pattern(int) range "
            + "cannot full, int patterns(), int pin(int,boolean) cannot none, int placeOf(int) cannot "
            + "range, int proof(int,int,boolean) index cannot none, int reached() cannot, int "
            + "run(int,int,int) range cannot, int seen(int) index cannot, int sift() cannot, int sweep(int) "
            + "range cannot, int table(int,int,int) index range cannot none, int trace(int) cannot none, "
            + "int value(int,int) index range cannot, int witness(int,int,boolean) index cannot none, int "
            + "word(int,int,int,int) range, long mergeProofs(), long signature(int) index cannot";
    private static final Map<Class<?>, String> REASONS = Map.of(IllegalArgumentException.class, "range",
            IndexOutOfBoundsException.class, "index", UnsupportedOperationException.class, "cannot",
            IllegalStateException.class, "full", NoSuchElementException.class, "none",
            ArithmeticException.class, "nothing");

    private static int wrong;

    public static void main(String[] args) throws IOException {
        String text = Files.readString(Path.of("src/main/java/Miterhouse.java"));
        checkFace();
        checkClasses();
        checkText(text);
        System.out.println(wrong == 0 ? "the rules of the language are kept" : wrong + " rules are broken");
        if (wrong > 0) {
            System.exit(1);
        }
    }

    private static void must(boolean holds, String what) {
        if (!holds) {
            wrong++;
            System.out.println(what);
        }
    }

    private static void checkFace() {
        List<String> rows = new ArrayList<>();
        Set<String> open = new TreeSet<>();
        for (Method m : Miterhouse.class.getDeclaredMethods()) {
            if (Modifier.isPublic(m.getModifiers())) {
                open.add(m.getName());
                rows.add(m.getReturnType() + " " + m.getName() + "("
                        + Arrays.stream(m.getParameterTypes()).map(Class::getName).collect(Collectors.joining(",")) + ")"
                        + Arrays.stream(m.getExceptionTypes()).map(e -> " " + REASONS.get(e)).collect(Collectors.joining()));
            }
        }
        rows.sort(null);
        must(String.join(", ", rows).equals(FACE), "rule 1: the face is " + String.join(", ", rows));
        must(Modifier.isFinal(Miterhouse.class.getModifiers()), "rule 1: not final");
        List<Member> members = new ArrayList<>(List.of(Miterhouse.class.getDeclaredFields()));
        members.addAll(List.of(Miterhouse.class.getDeclaredMethods()));
        for (Member m : members) {
            boolean isFace = m instanceof Method && Modifier.isPublic(m.getModifiers());
            must(isFace || Modifier.isPrivate(m.getModifiers()), "rule 1: " + m);
        }
        List<Class<?>> all = new ArrayList<>(List.of(Miterhouse.class.getDeclaredClasses()));
        all.add(Miterhouse.class);
        for (Class<?> c : all) {
            for (Method m : c.getDeclaredMethods()) {
                must(!Modifier.isPrivate(m.getModifiers()) || !open.contains(m.getName()), "rule 1: " + m);
            }
        }
    }

    /** Rule 11 says "some": what stands a little above it is no fault. */
    private static void checkClasses() {
        Class<?>[] inside = Miterhouse.class.getDeclaredClasses();
        must(inside.length <= 14, "rule 11: classes " + inside.length);
        for (Class<?> c : inside) {
            must(!Modifier.isPublic(c.getModifiers()) && !Modifier.isProtected(c.getModifiers()), "rule 2: " + c);
            long fields = Arrays.stream(c.getDeclaredFields()).filter(f -> !Modifier.isStatic(f.getModifiers())).count();
            must(fields <= 24, "rule 11: fields of " + c + ": " + fields);
            for (Field f : c.getDeclaredFields()) {
                must(!Modifier.isStatic(f.getModifiers()) || Modifier.isFinal(f.getModifiers()), "rule 5: " + f);
            }
            for (Method m : c.getDeclaredMethods()) {
                must(m.getParameterCount() <= 7, "rule 11: " + m);
            }
            for (Constructor<?> k : c.getDeclaredConstructors()) {
                must(k.getParameterCount() <= 8, "rule 11: " + k);
            }
        }
    }

    private static void checkText(String text) {
        String code = text.replaceAll("(?s)/\\*.*?\\*/", "").replaceAll("//[^\n]*", "").replaceAll("\"[^\"\n]*\"", "\"\"");
        must(text.chars().allMatch(c -> c < 128), "rule 4: a sign beyond 127");
        checkLibrary(code);
        checkExceptions(code);
        checkLengths(code);
    }

    private static void checkLibrary(String code) {
        Set<String> imports = Set.of("Arrays", "NoSuchElementException", "ArrayList", "List", "Iterator");
        for (String line : code.lines().filter(l -> l.startsWith("import ")).toList()) {
            must(imports.contains(line.replaceAll("import java\\.util\\.(\\w+);", "$1")), "rule 4: " + line);
        }
        for (String word : List.of("::", "finally", "synchronized", "assert", "volatile", "native", "System.out", "System.nano",
                "System.current", "Math.random", "Random", "Thread", "hashCode", "Exact(", "package ", "java.io", "java.nio",
                "java.net", "java.time", "Object[]", "Map<", "Set<")) {
            must(!Pattern.compile("(?<![A-Za-z])" + Pattern.quote(word)).matcher(code).find(), "not allowed: " + word);
        }
        for (String line : code.split("\n")) {
            must(!line.contains("->") || line.trim().startsWith("case ") || line.trim().startsWith("default "),
                    "rule 2: " + line);
            must(!line.matches(".*\"\" *\\+.*|.*\\+ *\"\".*"), "rule 10: " + line);
        }
        Matcher calls = Pattern.compile("(?<![A-Za-z.])(Arrays|System)\\.(\\w+)").matcher(code);
        Set<String> allowed = Set.of("fill", "copyOf", "copyOfRange", "arraycopy");
        while (calls.find()) {
            must(allowed.contains(calls.group(2)), "rule 4: " + calls.group());
        }
    }

    /** What is thrown is of the listed classes; nothing that the machine throws is caught, nor all of it. */
    private static void checkExceptions(String code) {
        Set<String> known = Set.of("IllegalStateException", "IllegalArgumentException", "IndexOutOfBoundsException",
                "ArithmeticException", "UnsupportedOperationException", "NoSuchElementException", "RuntimeException");
        Matcher thrown = Pattern.compile("throw (new (\\w+)\\((\"\")?\\);)?").matcher(code);
        while (thrown.find()) {
            must(thrown.group(2) != null && known.contains(thrown.group(2)), "rule 6: " + thrown.group());
        }
        Matcher caught = Pattern.compile("catch \\(([^)]*)\\)").matcher(code);
        Set<String> own = Set.of("IllegalStateException", "IllegalArgumentException", "UnsupportedOperationException",
                "NoSuchElementException", "ArithmeticException", "IndexOutOfBoundsException");
        while (caught.find()) {
            must(own.contains(caught.group(1).trim().split("\\s+")[0]), "caught: " + caught.group());
        }
    }

    private static void checkLengths(String code) {
        int start = 0;
        int number = 0;
        String head = "";
        for (String line : code.split("\n", -1)) {
            number++;
            if (line.matches("( {4}| {8})(?! )[^=;]*\\).*\\{")) {
                start = number;
                head = line.trim();
            }
            if (line.matches("( {4}| {8})}") && start > 0) {
                must(number - start <= 66, "rule 11: long: " + head);
                start = 0;
            }
        }
    }
}
