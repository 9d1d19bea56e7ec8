import java.util.ArrayList;
import java.util.List;
import java.util.Map;
import java.util.Random;

/**
 * All the 512 calls that an object is used for, of every kind and in any order, with arguments that
 * mostly fit what they mean and now and then are anything: Miterhouse is held to PlainHouse. Arguments:
 * the first seed and the number of runs.
 */
public final class AnyOrder {
    private static final int MOST_CALLS = 512;

    /** What each argument means: a letter for each, told at {@link #argument}. */
    private static final Map<String, String> MEANINGS = Map.ofEntries(
            Map.entry("cell", "nvm"), Map.entry("gate", "nkoo"), Map.entry("data", "ro"), Map.entry("output", "no"),
            Map.entry("constrain", "e"), Map.entry("value", "lc"), Map.entry("literal", "l"), Map.entry("pin", "ab"),
            Map.entry("pattern", "c"), Map.entry("signature", "l"), Map.entry("candidates", "l"),
            Map.entry("prove", "llbg"), Map.entry("proof", "llb"), Map.entry("witness", "llb"),
            Map.entry("sweep", "g"), Map.entry("merged", "l"), Map.entry("order", "ss"), Map.entry("placeOf", "s"),
            Map.entry("diagram", "ld"), Map.entry("cuts", "lt"), Map.entry("cutAt", "ltuu"), Map.entry("table", "ltu"),
            Map.entry("normal", "xy"), Map.entry("coefficient", "nxxf"), Map.entry("areSame", "w"),
            Map.entry("word", "nwzz"), Map.entry("seen", "l"), Map.entry("isIdle", "l"), Map.entry("patch", "ooppp"),
            Map.entry("correspond", "rrb"), Map.entry("trace", "x"), Map.entry("isInductive", "h"),
            Map.entry("isInvariant", "l"), Map.entry("run", "nhi"));
    /** Calls that PlainHouse takes long for, or that there is little to learn from, are asked less. */
    private static final List<String> RARE = List.of("input", "cell", "close", "sweep", "sift", "isSound");

    private final Random random;
    private final TwoHouses both = new TwoHouses();
    private final List<String> names = TwoHouses.names();
    private final int mostSources;
    private final int mostLines;
    private final boolean isConstrained;
    private final List<Integer> inputLines = new ArrayList<>();
    private final List<Integer> cells = new ArrayList<>();
    private final List<List<Integer>> ofNet = List.of(new ArrayList<>(), new ArrayList<>());
    private final int[] outputs = new int[2];
    private int sources;
    private int net;
    private boolean isClosed;

    private AnyOrder(long seed) {
        random = new Random(seed);
        mostSources = 1 + random.nextInt(5);
        mostLines = random.nextInt(6) == 0 ? 80 : 4 + random.nextInt(24);
        isConstrained = random.nextBoolean();
    }

    public static void main(String[] args) {
        long seed = args.length > 0 ? Long.parseLong(args[0]) : 1;
        int runs = args.length > 1 ? Integer.parseInt(args[1]) : 400;
        for (long s = seed; s < seed + runs; s++) {
            AnyOrder run = new AnyOrder(s);
            run.go();
            if (run.both.isWrong()) {
                run.both.tell("seed " + s);
                System.exit(1);
            }
        }
        System.out.println(runs + " runs of " + MOST_CALLS + " calls in any order answer as the plain house does");
    }

    private void go() {
        int closing = random.nextInt(300);
        while (both.history.size() < MOST_CALLS && !both.isWrong()) {
            if (both.history.size() >= closing && !isClosed && both.house.lines() > 0) {
                makeReady();
                ask("close");
            } else {
                askAny();
            }
        }
    }

    private void askAny() {
        String name = names.get(random.nextInt(names.size()));
        if (!isClosed && random.nextInt(3) > 0) {
            name = List.of("input", "cell", "gate", "gate", "gate", "gate", "data", "data", "output").get(random.nextInt(9));
        } else if ((RARE.contains(name) || name.equals("constrain") && !isConstrained) && random.nextInt(4) > 0) {
            return;
        }
        boolean isSource = name.equals("input") || name.equals("cell");
        boolean isMore = isSource && sources >= mostSources || name.equals("gate") && both.house.lines() >= mostLines;
        isMore |= name.equals("output") && outputs[0] + outputs[1] > 3 && random.nextInt(9) > 0;
        if (isClosed || !isMore) {
            ask(name);
        }
    }

    private void ask(String name) {
        String meanings = MEANINGS.getOrDefault(name, "");
        Object[] args = new Object[meanings.length()];
        Class<?>[] kinds = TwoHouses.kindsOf(name);
        net = name.equals("patch") ? 1 : random.nextInt(2);
        for (int k = 0; k < args.length; k++) {
            args[k] = argument(meanings.charAt(k));
            if (kinds[k] == int.class && random.nextInt(40) == 0) {
                args[k] = wild();
            }
        }
        int got = both.call(name, args);
        if (got >= 0) {
            keep(name, args, got);
        }
    }

    private void keep(String name, Object[] args, int got) {
        isClosed |= name.equals("close");
        sources += name.equals("input") || name.equals("cell") ? 1 : 0;
        if (name.equals("cell")) {
            cells.add(got);
        }
        if (name.equals("input")) {
            inputLines.add(got);
        }
        if (name.equals("output")) {
            outputs[(int) args[0]]++;
        }
        for (int each = 0; each < 2; each++) {
            boolean isOwn = (name.equals("cell") || name.equals("gate")) && (int) args[0] == each;
            if (name.equals("input") || isOwn) {
                ofNet.get(each).add(got);
            }
        }
    }

    private int any(List<Integer> from) {
        boolean isFar = from.isEmpty() || random.nextInt(6) == 0;
        return isFar ? random.nextInt(Math.max(1, both.house.lines())) : from.get(random.nextInt(from.size()));
    }

    private int wild() {
        int kind = random.nextInt(5);
        return kind == 0 ? Integer.MIN_VALUE : kind == 1 ? Integer.MAX_VALUE : kind == 2 ? random.nextInt()
                : random.nextInt(200) - 100;
    }

    private Object argument(char meaning) {
        int lines = Math.max(1, both.house.lines());
        return switch (meaning) {
            case 'n' -> net;
            case 'v' -> random.nextInt(2);
            case 'm' -> random.nextInt(10);
            case 'k' -> "aoxnrbvq".charAt(random.nextInt(random.nextInt(20) == 0 ? 8 : 7));
            case 'b' -> random.nextBoolean();
            case 'l' -> random.nextInt(lines);
            case 'o' -> any(ofNet.get(net));
            case 'r' -> any(cells);
            case 'e' -> any(inputLines);
            case 'p' -> random.nextInt(3) == 0 ? -1 : any(ofNet.get(net));
            case 'u' -> random.nextInt(1 + random.nextInt(4));
            case 'c' -> random.nextInt(1 << sources);
            case 'i' -> random.nextInt(1 << inputLines.size());
            case 's' -> random.nextInt(Math.max(1, sources));
            case 'a' -> sources + 1 + random.nextInt(12);
            case 'g' -> 1 + random.nextInt(1 << random.nextInt(8));
            case 'd' -> 1 + random.nextInt(12);
            case 't' -> 2 + random.nextInt(3);
            case 'x' -> random.nextInt(5);
            case 'y' -> random.nextInt(1 << (1 << random.nextInt(5)));
            case 'f' -> random.nextInt(1999) - 999;
            case 'w' -> 1 + random.nextInt(6);
            case 'h' -> random.nextInt(21);
            default -> random.nextInt();
        };
    }

    /** Data for each cell, first any line, then mostly itself, which fits; and as many outputs of both nets. */
    private void makeReady() {
        int lines = both.house.lines();
        for (int cell : cells) {
            both.call("data", cell, random.nextInt(lines));
            if (random.nextInt(20) > 0) {
                both.call("data", cell, cell);
            }
        }
        int wanted = Math.max(1, Math.max(outputs[0], outputs[1]));
        for (int each = 0; each < 2; each++) {
            for (int tries = 0; tries < 9 && outputs[each] < wanted; tries++) {
                outputs[each] += both.call("output", each, any(ofNet.get(each))) >= 0 ? 1 : 0;
            }
        }
    }
}
