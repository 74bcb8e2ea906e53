import java.math.BigInteger;

/** Promise 7: down, with b - a wider than an int, and the bounds of d and n. */
public final class BetweenTest extends Calls {
    private static final int LEAST = Integer.MIN_VALUE;
    private static final int GREATEST = Integer.MAX_VALUE;
    private static final long[] SHARES = Due.longs(50);

    public static void main(String[] args) {
        between(0, 100, 1, 3, 33);
        between(100, 0, 1, 3, 66);
        between(-100, 0, 1, 3, -67);
        between(0, -100, 1, 3, -34);
        between(5, 9, 0, 1, 5);
        between(5, 9, 1, 1, 9);
        between(7, 7, 3, 8, 7);
        between(LEAST, GREATEST, 1, 2, -1);
        between(GREATEST, LEAST, 1, 2, -1);
        wide();
        refused();
        int[] ends = Due.ints(20);
        for (int i = 0; i < ends.length; i += 3) {
            for (int j = 0; j < ends.length; j += 5) {
                manyShares(ends[i], ends[j]);
            }
        }
        Due.end();
    }

    private static void wide() {
        between(LEAST, GREATEST, 0, Long.MAX_VALUE, LEAST);
        between(LEAST, GREATEST, Long.MAX_VALUE, Long.MAX_VALUE, GREATEST);
        between(LEAST, GREATEST, Long.MAX_VALUE - 1, Long.MAX_VALUE, GREATEST - 1);
        between(GREATEST, LEAST, Long.MAX_VALUE - 1, Long.MAX_VALUE, LEAST);
        between(GREATEST, LEAST, Long.MAX_VALUE, Long.MAX_VALUE, LEAST);
        between(GREATEST, LEAST, 1, Long.MAX_VALUE, GREATEST - 1);
    }

    private static void refused() {
        betweenRefused(5, 9, 2, 1);
        betweenRefused(5, 9, 0, 0);
        betweenRefused(5, 9, 1, 0);
        betweenRefused(5, 9, -1, 4);
        betweenRefused(5, 9, 0, -1);
        betweenRefused(5, 9, -1, -1);
        betweenRefused(5, 9, -2, -1);
        betweenRefused(5, 9, Long.MIN_VALUE, Long.MAX_VALUE);
        betweenRefused(5, 9, 0, Long.MIN_VALUE);
        betweenRefused(5, 9, Long.MIN_VALUE, Long.MIN_VALUE);
        betweenRefused(5, 9, Long.MAX_VALUE, Long.MAX_VALUE - 1);
        betweenRefused(5, 5, 2, 1);
    }

    private static void manyShares(int a, int b) {
        for (int i = 0; i < SHARES.length; i += 5) {
            for (int j = 0; j < SHARES.length; j += 11) {
                judged(a, b, SHARES[i], SHARES[j]);
            }
            judged(a, b, SHARES[i], SHARES[i]);
            judged(a, b, SHARES[i] - 1, SHARES[i]);
        }
    }

    private static void judged(int a, int b, long n, long d) {
        if (d <= 0 || n < 0 || n > d) {
            betweenRefused(a, b, n, d);
            return;
        }
        BigInteger step = Due.down(Due.big((long) b - a).multiply(Due.big(n)), Due.big(d));
        between(a, b, n, d, Due.big(a).add(step).longValueExact());
    }
}
