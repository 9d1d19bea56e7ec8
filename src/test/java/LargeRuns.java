import java.util.Random;

/**
 * Nets of up to 80 lines with large diagrams, and nets with many cuts, held to PlainHouse: so many
 * parts and unions that the sets which hold them grow again and again. Arguments: the first seed and
 * the number of runs.
 */
public final class LargeRuns {
    private final Random random;
    private final TwoHouses both = new TwoHouses();
    /** The lines of each net that its gates may stand on, inputs among them, and how many they are. */
    private final int[][] own = new int[2][80];
    private final int[] counts = new int[2];

    private LargeRuns(long seed) {
        random = new Random(seed);
    }

    public static void main(String[] args) {
        long seed = args.length > 0 ? Long.parseLong(args[0]) : 1;
        int runs = args.length > 1 ? Integer.parseInt(args[1]) : 40;
        for (long s = seed; s < seed + runs; s++) {
            LargeRuns run = new LargeRuns(s);
            if (s % 2 == 0) {
                run.goCuts();
            } else {
                run.goDiagrams();
            }
            if (run.both.isWrong()) {
                run.both.tell("seed " + s);
                System.exit(1);
            }
        }
        System.out.println(runs + " runs of large diagrams and many cuts answer as the plain house does");
    }

    private void goDiagrams() {
        int inputs = 3 + random.nextInt(4);
        int sources = inputs + 2 * random.nextInt(5);
        tellSources(inputs, sources);
        String kinds = random.nextBoolean() ? "xa" : "xao";
        while (both.house.lines() < 80) {
            int net = both.house.lines() % 2;
            int one = own[net][counts[net] - 1 - random.nextInt(3)];
            int two = own[net][random.nextInt(random.nextBoolean() ? inputs : counts[net])];
            keep(net, both.call("gate", net, kinds.charAt(random.nextInt(kinds.length())), one, two));
        }
        for (int cell = inputs; cell < sources; cell++) {
            both.call("data", cell, late((cell - inputs) % 2, random.nextInt(8)));
        }
        for (int k = 0; k < 8; k++) {
            both.call("output", k % 2, late(k % 2, k / 2));
        }
        both.call("close");
        for (int k = 0; k < 4; k++) {
            both.call("allDiagrams");
            both.call("diagram", 79 - random.nextInt(30), 9999);
            both.call("order", random.nextInt(sources), random.nextInt(sources));
        }
        if (sources < 8) {
            both.call("sift");
        }
    }

    private void goCuts() {
        int inputs = 2 + random.nextInt(5);
        tellSources(inputs, inputs);
        int near = 4 + random.nextInt(6);
        String kinds = random.nextInt(3) > 0 ? "x" : "xxa";
        int last = inputs + 17 + random.nextInt(22);
        while (both.house.lines() <= last) {
            int one = late(1, random.nextInt(Math.min(near, counts[1])));
            int two = late(1, random.nextInt(Math.min(near, counts[1])));
            keep(1, both.call("gate", 1, kinds.charAt(random.nextInt(kinds.length())), one, two));
        }
        both.call("output", 0, 0);
        both.call("output", 1, last);
        both.call("close");
        for (int most = 2; most <= 4; most++) {
            int count = both.call("cuts", last, most);
            for (int k = 0; k < 4 && count > 0; k++) {
                int cut = random.nextInt(count);
                both.call("table", last, most, cut);
                both.call("cutAt", last, most, cut, random.nextInt(most));
            }
        }
    }

    private void tellSources(int inputs, int sources) {
        for (int line = 0; line < inputs; line++) {
            both.call("input");
            keep(0, line);
            keep(1, line);
        }
        for (int line = inputs; line < sources; line++) {
            int net = (line - inputs) % 2;
            keep(net, both.call("cell", net, random.nextInt(2), (line - inputs) / 2));
        }
    }

    private void keep(int net, int line) {
        own[net][counts[net]] = line;
        counts[net]++;
    }

    private int late(int net, int back) {
        return own[net][counts[net] - 1 - back];
    }
}
