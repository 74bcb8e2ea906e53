import java.math.BigInteger;
import java.util.Random;

/** Promise 6: the exact product, down, and what a long can't hold. */
public final class RatioTest extends Calls {
    private static final long LEAST = Long.MIN_VALUE;
    private static final long GREATEST = Long.MAX_VALUE;

    public static void main(String[] args) {
        signs();
        byZero();
        heldOrNot();
        edgesOfEachSize();
        nearTheBounds();
        Due.end();
    }

    private static void signs() {
        ratio(7, 3, 2, 10);
        ratio(-7, 3, 2, -11);
        ratio(7, -3, 2, -11);
        ratio(7, 3, -2, -11);
        ratio(-7, -3, 2, 10);
        ratio(-7, -3, -2, -11);
        ratio(-6, 3, 2, -9);
        ratio(0, -3, 2, 0);
        ratio(-3, 0, -2, 0);
        ratio(1, -1, GREATEST, -1);
        ratio(1, 1, LEAST, -1);
    }

    private static void byZero() {
        ratioRefused(1, 1, 0);
        ratioRefused(0, 0, 0);
        ratioRefused(LEAST, LEAST, 0);
    }

    private static void heldOrNot() {
        ratio(GREATEST, GREATEST, GREATEST, GREATEST);
        ratio(LEAST, LEAST, LEAST, LEAST);
        ratio(LEAST, -1, -1, LEAST);
        ratio(LEAST, GREATEST, GREATEST, LEAST);
        ratio(LEAST, GREATEST, LEAST, GREATEST);
        ratioRefused(LEAST, 1, -1);
        ratioRefused(LEAST, -1, 1);
        ratioRefused(LEAST, LEAST, GREATEST);
        ratioRefused(LEAST, LEAST, 1);
        ratioRefused(GREATEST, 2, 1);
        ratioRefused(GREATEST, -2, 1);
        ratioRefused(LEAST, LEAST, -GREATEST);
        ratio(GREATEST, GREATEST, LEAST, -GREATEST);
        // (2^64 - 1) / 2 is held on both sides of 0.
        ratio(4294967295L, 4294967297L, 2, GREATEST);
        ratio(4294967295L, -4294967297L, 2, LEAST);
        // (2^64 + 1) / 2 is not: down leaves -2^63 - 1.
        ratioRefused(274177, -67280421310721L, 2);
        ratioRefused(274177, 67280421310721L, 2);
    }

    private static void edgesOfEachSize() {
        long[] some = Due.longs(60);
        for (long a : some) {
            for (long b : some) {
                for (int i = 0; i < some.length; i += 7) {
                    judged(a, b, some[i]);
                }
                judged(a, b, b);
                judged(a, b, -a);
            }
        }
    }

    /** Products made so that the ratio falls beside -2^63, 2^63 and 2^64. */
    private static void nearTheBounds() {
        Random random = new Random(6);
        for (int i = 0; i < 200000; i++) {
            long a = random.nextLong() >> random.nextInt(40);
            long c = random.nextLong() >> random.nextInt(63);
            if (a == 0) {
                continue;
            }
            BigInteger bound = BigInteger.ONE.shiftLeft(63 + random.nextInt(2));
            BigInteger b = bound.multiply(Due.big(c)).divide(Due.big(a)).add(Due.big(random.nextInt(5) - 2));
            if (b.bitLength() < 64) {
                judged(a, b.longValueExact(), c);
                judged(-a, b.longValueExact(), c);
            }
        }
    }

    private static void judged(long a, long b, long c) {
        if (c == 0) {
            ratioRefused(a, b, c);
            return;
        }
        BigInteger exact = Due.down(Due.big(a).multiply(Due.big(b)), Due.big(c));
        if (exact.bitLength() < 64) {
            ratio(a, b, c, exact.longValueExact());
        } else {
            ratioRefused(a, b, c);
        }
    }
}
