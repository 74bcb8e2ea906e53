import java.math.BigInteger;

/** Promises 11 and 12: fromHalf over all halves, toHalf against the list of all halves. */
public final class HalvesTest extends Calls {
    private static final int ENDLESS = 31 << 10;
    private static final int SIGN = 1 << 15;

    public static void main(String[] args) {
        fromEdges();
        for (int h = 0; h < 65536; h++) {
            long want = fromHalfDue(h);
            fromHalf(h, want);
            fromHalf(h | 0xABCD0000, want);
            fromHalf(h | 0x00010000, want);
        }
        toEdges();
        for (int a = -300000; a <= 300000; a++) {
            toHalf(a, toHalfDue(a));
        }
        for (int a : Due.ints(100000)) {
            toHalf(a, toHalfDue(a));
        }
        betweenNeighbours();
        thereAndBack();
        Due.end();
    }

    private static void fromEdges() {
        fromHalf(0, 0);
        fromHalf(SIGN, 0);
        fromHalf(15360, 65536);
        fromHalf(48128, -65536);
        fromHalf(1, 0);
        fromHalf(255, 0);
        fromHalf(256, 1);
        fromHalf(1023, 3);
        fromHalf(1024, 4);
        fromHalf(SIGN | 1, -1);
        fromHalf(SIGN | 256, -1);
        fromHalf(SIGN | 257, -2);
        fromHalf(SIGN | 1023, -4);
        fromHalf(SIGN | 1024, -4);
        fromHalf(SIGN | 1025, -5);
        fromHalf(30719, 2146435072);
        fromHalf(30720, Integer.MAX_VALUE);
        fromHalf(SIGN | 30719, -2146435072);
        fromHalf(SIGN | 30720, Integer.MIN_VALUE);
        fromHalf(SIGN | 30721, Integer.MIN_VALUE);
        fromHalf(ENDLESS - 1, Integer.MAX_VALUE);
        fromHalf(ENDLESS, Integer.MAX_VALUE);
        fromHalf(SIGN | ENDLESS, Integer.MIN_VALUE);
        fromHalf(ENDLESS + 1, 0);
        fromHalf(ENDLESS + 1023, 0);
        fromHalf(SIGN | ENDLESS + 1, 0);
        fromHalf(-1, 0);
    }

    private static void toEdges() {
        toHalf(0, 0);
        toHalf(1, 256);
        toHalf(-1, SIGN | 256);
        toHalf(3, 768);
        toHalf(4, 1024);
        toHalf(-4, 33792);
        toHalf(65536, 15360);
        toHalf(2047, 10239);
        toHalf(2048, 10240);
        toHalf(2049, 10240);
        toHalf(-2049, SIGN | 10240);
        toHalf(2051, 10242);
        toHalf(-2051, SIGN | 10242);
        toHalf(4094, 11263);
        toHalf(4095, 11264);
        toHalf(Integer.MAX_VALUE, 30720);
        toHalf(-Integer.MAX_VALUE, SIGN | 30720);
        toHalf(Integer.MIN_VALUE, 63488);
    }

    /** Midway between two halves, and one step to each side. */
    private static void betweenNeighbours() {
        for (int h = 10240; h < 30720; h++) {
            long midway = Math.round((numbers().fromHalf(h) + (double) numbers().fromHalf(h + 1)) / 2);
            for (long a = midway - 1; a <= midway + 1 && a <= Integer.MAX_VALUE; a++) {
                toHalf((int) a, toHalfDue((int) a));
                toHalf((int) -a, toHalfDue((int) -a));
            }
        }
    }

    /** Halves that are fixed numbers come back as they were. */
    private static void thereAndBack() {
        for (int h = 9216; h < 30720; h++) {
            toHalf(numbers().fromHalf(h), h);
            toHalf(numbers().fromHalf(SIGN | h), SIGN | h);
        }
    }

    /** A half without its sign, times 2^24, by the words of the terms. */
    private static long size(int h) {
        int e = (h >> 10) & 31;
        int f = h & 1023;
        return e == 0 ? f : (1024L + f) << (e - 1);
    }

    private static long fromHalfDue(int h) {
        boolean negative = (h & SIGN) != 0;
        int rest = h & 0x7FFF;
        if (rest > ENDLESS) {
            return 0;
        }
        if (rest == ENDLESS) {
            return negative ? Integer.MIN_VALUE : Integer.MAX_VALUE;
        }
        BigInteger value = Due.big(negative ? -size(rest) : size(rest));
        return Due.cut(Due.down(value.multiply(Due.ONE), BigInteger.ONE.shiftLeft(24)));
    }

    /** Sizes of halves grow with their bits, so the two beside a number can be found by halving. */
    private static long toHalfDue(int a) {
        if (a == 0) {
            return 0;
        }
        long wanted = Math.abs((long) a) << 8;
        int below = 0;
        int above = ENDLESS - 1;
        while (above - below > 1) {
            int middle = (below + above) / 2;
            if (size(middle) <= wanted) {
                below = middle;
            } else {
                above = middle;
            }
        }
        long toBelow = wanted - size(below);
        long toAbove = size(above) - wanted;
        boolean takesBelow = toBelow < toAbove || (toBelow == toAbove && below % 2 == 0);
        return (a < 0 ? SIGN : 0) | (takesBelow ? below : above);
    }
}
