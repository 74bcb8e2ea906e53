import java.math.BigInteger;

/** Promises 4 and 5: root and oneByRoot. */
public final class RootTest extends Calls {
    public static void main(String[] args) {
        edges();
        for (int a = -20; a < 70000; a++) {
            bothRoots(a);
        }
        for (int a : Due.ints(20000)) {
            bothRoots(a);
        }
        for (int r = 1; r < 46341; r++) {
            // Squares and their neighbours are where a root is one off most easily.
            bothRoots(r * r - 1);
            bothRoots(r * r);
        }
        for (long r = 362; r < 70000; r++) {
            long a = (1L << 48) / (r * r);
            if (a < Integer.MAX_VALUE) {
                bothRoots((int) a);
                bothRoots((int) a + 1);
            }
        }
        Due.end();
    }

    private static void edges() {
        root(0, 0);
        root(1, 256);
        root(2, 362);
        root(65536, 65536);
        root(65535, 65535);
        root(131072, 92681);
        root(Integer.MAX_VALUE, 11863283);
        root(-1, 0);
        root(Integer.MIN_VALUE, 0);
        oneByRoot(65536, 65536);
        oneByRoot(1, 16777216);
        oneByRoot(2, 11863283);
        oneByRoot(4, 8388608);
        oneByRoot(65537, 65535);
        oneByRoot(Integer.MAX_VALUE, 362);
        oneByRoot(0, Integer.MAX_VALUE);
        oneByRoot(-1, Integer.MAX_VALUE);
        oneByRoot(Integer.MIN_VALUE, Integer.MAX_VALUE);
    }

    private static void bothRoots(int a) {
        root(a, a < 0 ? 0 : Due.ONE.multiply(Due.big(a)).sqrt().longValueExact());
        if (a <= 0) {
            oneByRoot(a, Integer.MAX_VALUE);
            return;
        }
        long r = numbers().oneByRoot(a);
        Due.that(r >= 0 && notAbove(r, a) && !notAbove(r + 1, a), "oneByRoot(" + a + ") is the greatest, not " + r);
    }

    private static boolean notAbove(long r, int a) {
        BigInteger left = Due.big(r).multiply(Due.big(r)).multiply(Due.big(a));
        return left.compareTo(BigInteger.ONE.shiftLeft(48)) <= 0;
    }
}
