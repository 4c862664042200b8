import java.math.BigInteger;
import java.util.function.IntPredicate;

/** Seeds of simulations whose first turns are wanted ones, found by going back from them. */
final class Turns {
    private static final BigInteger FACTOR = new BigInteger("6364136223846793005");
    private static final BigInteger SUMMAND = new BigInteger("1442695040888963407");
    private static final BigInteger MODULUS = BigInteger.ONE.shiftLeft(64);
    private static final BigInteger BACK = FACTOR.modInverse(MODULUS);
    private static final long MOST_TRIES = 1L << 33;

    private Turns() {
    }

    /** The numbers r of the first m turns, without a long that could overflow. */
    static int[] of(long seed, int m) {
        int[] turns = new int[m];
        BigInteger x = BigInteger.valueOf(seed).mod(MODULUS);
        for (int i = 0; i < m; i++) {
            x = x.multiply(FACTOR).add(SUMMAND).mod(MODULUS);
            turns[i] = x.shiftRight(33).intValueExact();
        }
        return turns;
    }

    /** A seed whose first turn has just this r, while the ones behind it are as wanted. */
    static long seed(int r, IntPredicate... later) {
        for (long low = 0; low < MOST_TRIES; low++) {
            long first = ((long) r << 33) + low;
            if (fits(first, later)) {
                long seed = BigInteger.valueOf(first).subtract(SUMMAND).multiply(BACK).mod(MODULUS).longValue();
                Run.check("the first turn of seed " + seed, of(seed, 1)[0], r);
                return seed;
            }
        }
        throw new AssertionError("no such seed");
    }

    private static boolean fits(long first, IntPredicate... later) {
        long x = first;
        for (IntPredicate wanted : later) {
            x = x * FACTOR.longValue() + SUMMAND.longValue();
            if (!wanted.test((int) (x >>> 33))) {
                return false;
            }
        }
        return true;
    }

    /** The least r from a number on that is as wanted. */
    static int from(int least, IntPredicate wanted) {
        int r = least;
        while (!wanted.test(r)) {
            r++;
        }
        return r;
    }

    static IntPredicate draw(int parent) {
        return r -> r % 16 == 0 && r / 16 % 10 == parent;
    }

    static IntPredicate revise(int kind, int s, int fields) {
        return r -> r % 16 == kind && r / 16 % 10 == s && 1 + r / 256 % 4095 == fields;
    }

    /** A revision with field 0 among others: the cloud 1 + r / 256 % 4095 is odd. */
    static IntPredicate reviseField0(int s) {
        return r -> (r % 16 == 1 || r % 16 == 2) && r / 16 % 10 == s && r / 256 % 4095 % 2 == 0;
    }

    static IntPredicate check(int s) {
        return r -> r % 16 == 3 && r / 16 % 10 == s;
    }

    static IntPredicate print(int kind, int s) {
        return r -> r % 16 == kind && r / 16 % 10 == s;
    }

    static IntPredicate stamp(int kind, int p, int hand) {
        return r -> r % 16 == kind && r / 16 % 24 == p && r / 512 % 3 == hand;
    }

    static IntPredicate back(int p) {
        return r -> r % 16 == 9 && r / 16 % 24 == p;
    }

    static IntPredicate build(int kind, int p, int f) {
        return r -> r % 16 == kind && r / 16 % 24 == p && r / 512 % 12 == f;
    }

    static IntPredicate build0(int p) {
        return r -> r % 16 >= 10 && r % 16 <= 12 && r / 16 % 24 == p && r / 512 % 12 == 0;
    }

    static IntPredicate mend(int w) {
        return r -> r % 16 == 13 && r / 16 % 30 == w;
    }

    static IntPredicate run(int kind, int days) {
        return r -> r % 16 == kind && 1 + r / 16 % 5 == days;
    }
}
