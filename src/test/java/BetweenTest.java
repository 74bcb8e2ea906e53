import java.math.BigInteger;

/** Promise 7: down, with b - a wider than an int, and the bounds of d and n. */
public final class BetweenTest {
    private static final FixedNumbers NUMBERS = new FixedNumbers();
    private static final int LEAST = Integer.MIN_VALUE;
    private static final int GREATEST = Integer.MAX_VALUE;
    private static final long[] SHARES = Due.longs(50);

    public static void main(String[] args) {
        answers(0, 100, 1, 3, 33);
        answers(100, 0, 1, 3, 66);
        answers(-100, 0, 1, 3, -67);
        answers(0, -100, 1, 3, -34);
        answers(5, 9, 0, 1, 5);
        answers(5, 9, 1, 1, 9);
        answers(7, 7, 3, 8, 7);
        answers(LEAST, GREATEST, 1, 2, -1);
        answers(GREATEST, LEAST, 1, 2, -1);
        wide();
        refused();
        int[] ends = Due.ints(20);
        for (int i = 0; i < ends.length; i += 3) {
            for (int j = 0; j < ends.length; j += 5) {
                manyShares(ends[i], ends[j]);
            }
        }
        Due.end();
    }

    private static void wide() {
        answers(LEAST, GREATEST, 0, Long.MAX_VALUE, LEAST);
        answers(LEAST, GREATEST, Long.MAX_VALUE, Long.MAX_VALUE, GREATEST);
        answers(LEAST, GREATEST, Long.MAX_VALUE - 1, Long.MAX_VALUE, GREATEST - 1);
        answers(GREATEST, LEAST, Long.MAX_VALUE - 1, Long.MAX_VALUE, LEAST);
        answers(GREATEST, LEAST, Long.MAX_VALUE, Long.MAX_VALUE, LEAST);
        answers(GREATEST, LEAST, 1, Long.MAX_VALUE, GREATEST - 1);
    }

    private static void refused() {
        refuses(5, 9, 2, 1);
        refuses(5, 9, 0, 0);
        refuses(5, 9, 1, 0);
        refuses(5, 9, -1, 4);
        refuses(5, 9, 0, -1);
        refuses(5, 9, -1, -1);
        refuses(5, 9, -2, -1);
        refuses(5, 9, Long.MIN_VALUE, Long.MAX_VALUE);
        refuses(5, 9, 0, Long.MIN_VALUE);
        refuses(5, 9, Long.MIN_VALUE, Long.MIN_VALUE);
        refuses(5, 9, Long.MAX_VALUE, Long.MAX_VALUE - 1);
        refuses(5, 5, 2, 1);
    }

    private static void manyShares(int a, int b) {
        for (int i = 0; i < SHARES.length; i += 5) {
            for (int j = 0; j < SHARES.length; j += 11) {
                judged(a, b, SHARES[i], SHARES[j]);
            }
            judged(a, b, SHARES[i], SHARES[i]);
            judged(a, b, SHARES[i] - 1, SHARES[i]);
        }
    }

    private static void judged(int a, int b, long n, long d) {
        if (d <= 0 || n < 0 || n > d) {
            refuses(a, b, n, d);
            return;
        }
        BigInteger step = Due.down(Due.big((long) b - a).multiply(Due.big(n)), Due.big(d));
        answers(a, b, n, d, Due.big(a).add(step).longValueExact());
    }

    private static void answers(int a, int b, long n, long d, long want) {
        Due.answer(() -> NUMBERS.between(a, b, n, d), want, "between", a, b, n, d);
    }

    private static void refuses(int a, int b, long n, long d) {
        Due.exception(() -> NUMBERS.between(a, b, n, d), IllegalArgumentException.class, "between", a, b, n, d);
    }
}
