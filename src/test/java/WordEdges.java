import java.math.BigInteger;

/** The edges of promises 32 to 34: polynomials in words. */
final class WordEdges extends Edges {
    /** Numbers at the ends of an int, below 0, and such whose powers wrap around in an int or a long. */
    private static final int[] ANY = {Integer.MIN_VALUE, Integer.MIN_VALUE + 1, -2000000011, -65537, -65536, -46341, -1626,
        -1291, -64, -63, -3, -2, -1, 0, 1, 2, 31, 32, 63, 64, 65, 1290, 1291, 1625, 1626, 46340, 46341, 65535, 65536, 65537,
        2097151, 2097152, 1 << 30, Integer.MAX_VALUE - 1, Integer.MAX_VALUE};

    private static final int[] RISING = new int[32];
    private static final int[] ENDS = new int[32];

    static {
        for (int at = 0; at < 32; at++) {
            RISING[at] = at;
            ENDS[at] = at % 3 == 0 ? -999 : 999;
        }
    }

    private WordEdges() {
    }

    static void run() {
        coefficients();
        sameness();
        wordNumbers();
        anyNumber();
    }

    private static void coefficients() {
        sentence("Promise 32: which polynomial, 0 or 1");
        limits(RANGE, Miterhouse::new, 0, 0, 1, 0, (x, which) -> x.coefficient(which, 0, 0, 1));
        sentence("Promise 32: i, 0 to 3");
        limits(RANGE, Miterhouse::new, 0, 0, 3, 0, (x, i) -> x.coefficient(0, i, 0, 1));
        sentence("Promise 32: j, 0 to 3");
        limits(RANGE, Miterhouse::new, 0, 0, 3, 0, (x, j) -> x.coefficient(1, 0, j, 1));
        sentence("Promise 32: the number, -999 to 999");
        limits(RANGE, Miterhouse::new, -999, 0, 999, 0, (x, number) -> x.coefficient(1, 3, 3, number));
        limits(RANGE, WordEdges::numbered, -999, 31, 999, 31, (x, number) -> x.coefficient(1, 3, 3, number));
        sentence("Promise 32: returns the one before");
        Miterhouse x = new Miterhouse();
        due(0, x.coefficient(0, 3, 0, -999));
        due(-999, x.coefficient(0, 3, 0, 999));
        due(999, x.coefficient(0, 3, 0, 0));
        due(0, x.coefficient(0, 3, 0, 0));
        sentence("Promise 32: each coefficient by itself");
        Miterhouse all = numbered();
        for (int at = 0; at < 32; at++) {
            due(at, all.coefficient(at / 16, at / 4 % 4, at % 4, -at));
        }
        for (int at = 0; at < 32; at++) {
            due(-at, all.coefficient(at / 16, at / 4 % 4, at % 4, 0));
        }
        sentence("Promise 32: several numbers are out of range");
        refused(RANGE, WordEdges::numbered, y -> y.coefficient(2, 4, 0, 0));
        refused(RANGE, WordEdges::numbered, y -> y.coefficient(0, -1, 4, 1000));
        refused(RANGE, WordEdges::numbered, y -> y.coefficient(0, 0, 4, -1000));
        refused(RANGE, WordEdges::numbered, y -> y.coefficient(-1, 4, 0, 5));
        refused(RANGE, WordEdges::numbered, y -> y.coefficient(0, 1, -4, 5));
        sentence("Promise 32: closed nets do not matter");
        due(0, Houses.small().coefficient(0, 0, 0, 5));
        limits(RANGE, Houses::small, -999, 0, 999, 0, (y, number) -> y.coefficient(0, 0, 0, number));
    }

    /** Each coefficient is its number. */
    private static Miterhouse numbered() {
        return made(RISING);
    }

    private static Miterhouse made(int[] coefficients) {
        Miterhouse x = new Miterhouse();
        for (int at = 0; at < 32; at++) {
            x.coefficient(at / 16, at / 4 % 4, at % 4, coefficients[at]);
        }
        return x;
    }

    private static void sameness() {
        sentence("Promise 33: words of 1 to 6 bits");
        limits(RANGE, Miterhouse::new, 1, true, 6, true, (x, bits) -> x.areSame(bits));
        limits(RANGE, WordEdges::numbered, 1, true, 6, false, (x, bits) -> x.areSame(bits));
        limits(RANGE, Houses::small, 1, true, 6, true, (x, bits) -> x.areSame(bits));
        sentence("Promise 33: modulo 2 to the power of so many, and of one more");
        for (int i = 0; i < 16; i++) {
            for (int power = 0; power <= 8; power++) {
                Miterhouse x = new Miterhouse();
                x.coefficient(i % 2, i / 4, i % 4, i % 3 == 0 ? 1 << power : -1 << power);
                for (int bits = 1; bits <= 6; bits++) {
                    due(bits <= power, x.areSame(bits));
                }
            }
        }
        sentence("Promise 33: the same for all x and y, of unlike coefficients");
        int[] product = {0, 2, 3, 1};
        for (int times = 1; times <= 16; times *= 2) {
            Miterhouse x = new Miterhouse();
            for (int i = 0; i < 4; i++) {
                for (int j = 0; j < 4; j++) {
                    x.coefficient(0, i, j, times * product[i] * product[j]);
                }
            }
            for (int bits = 1; bits <= 6; bits++) {
                due(4 * times % (1 << bits) == 0, x.areSame(bits));
            }
        }
        sentence("Promise 33: the greatest and the least coefficients");
        Miterhouse x = new Miterhouse();
        x.coefficient(0, 3, 3, 999);
        x.coefficient(1, 3, 3, -999);
        due(true, x.areSame(1));
        due(false, x.areSame(2));
        x.coefficient(1, 3, 3, 999 - 64);
        due(true, x.areSame(6));
        x.coefficient(1, 3, 3, 999 - 32);
        due(false, x.areSame(6));
    }

    private static void wordNumbers() {
        sentence("Promise 34: which polynomial, 0 or 1");
        limits(RANGE, WordEdges::numbered, 0, 56, 1, 56, (x, which) -> x.word(which, 6, 1, 1));
        limits(RANGE, WordEdges::numbered, 0, 0, 1, 16, (x, which) -> x.word(which, 6, 0, 0));
        sentence("Promise 34: words of 1 to 6 bits");
        limits(RANGE, WordEdges::numbered, 1, 0, 6, 16, (x, bits) -> x.word(1, bits, 0, 0));
        for (int bits = 1; bits <= 6; bits++) {
            Miterhouse x = new Miterhouse();
            x.coefficient(0, 0, 0, 999);
            x.coefficient(1, 0, 0, -1);
            due(999 % (1 << bits), x.word(0, bits, 5, 5));
            due((1 << bits) - 1, x.word(1, bits, 5, 5));
        }
        sentence("Promise 34: both numbers are out of range");
        refused(RANGE, WordEdges::numbered, x -> x.word(2, 7, 0, 0));
        refused(RANGE, WordEdges::numbered, x -> x.word(-1, 0, 0, 0));
        refused(RANGE, WordEdges::numbered, x -> x.word(Integer.MAX_VALUE, Integer.MIN_VALUE, 0, 0));
        refused(RANGE, WordEdges::numbered, x -> x.word(0, 32, 0, 0));
    }

    private static void anyNumber() {
        sentence("Promise 34: x is any number");
        for (int x : ANY) {
            dueWord(RISING, x, 1);
            dueWord(RISING, x, -7);
            dueWord(ENDS, x, 3);
        }
        sentence("Promise 34: y is any number");
        for (int y : ANY) {
            dueWord(RISING, 1, y);
            dueWord(RISING, -5, y);
            dueWord(ENDS, 3, y);
        }
        sentence("Promise 34: x and y are any numbers, whose powers wrap around");
        for (int x : ANY) {
            for (int y : ANY) {
                dueWord(ENDS, x, y);
            }
        }
    }

    private static void dueWord(int[] coefficients, int x, int y) {
        Miterhouse house = made(coefficients);
        for (int which = 0; which < 2; which++) {
            BigInteger value = value(coefficients, which, x, y);
            for (int bits = 1; bits <= 6; bits++) {
                due(value.mod(BigInteger.ONE.shiftLeft(bits)).intValue(), house.word(which, bits, x, y));
            }
        }
    }

    /** The value by numbers that never wrap around. */
    private static BigInteger value(int[] coefficients, int which, int x, int y) {
        BigInteger sum = BigInteger.ZERO;
        for (int at = 0; at < 16; at++) {
            sum = sum.add(BigInteger.valueOf(coefficients[16 * which + at]).multiply(BigInteger.valueOf(x).pow(at / 4))
                    .multiply(BigInteger.valueOf(y).pow(at % 4)));
        }
        return sum;
    }
}
