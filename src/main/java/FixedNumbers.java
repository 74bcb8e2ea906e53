/**
 * The numbers of a drawing machine: whole ones that stand for others, with one way of rounding for each operation.
 * No call changes the object, so every object answers alike.
 */
public final class FixedNumbers {
    private static final int LEAST_INT = 0x80000000;
    private static final int GREATEST_INT = 0x7FFFFFFF;
    private static final long LEAST_LONG = 0x8000000000000000L;
    private static final long LOW_32_BITS = 0xFFFFFFFFL;

    private static final int ONE = 65536;
    private static final int BYTE_ONE = 255;

    private static final int HALF_SIGN = 0x8000;
    private static final int HALF_FRACTION = 0x3FF;
    private static final int HALF_LEADING_BIT = 0x400;
    private static final int HALF_NOT_FINITE = 31;

    public FixedNumbers() {
    }

    public int product(int a, int b) {
        return (int) (((long) a * b) >> 16);
    }

    public int quotient(int a, int b) {
        if (b == 0) {
            return a > 0 ? GREATEST_INT : a < 0 ? LEAST_INT : 0;
        }
        return cut(Math.floorDiv((long) ONE * a, (long) b));
    }

    public int root(int a) {
        if (a < 0) {
            return 0;
        }
        return wholeRoot((long) ONE * a);
    }

    public int oneByRoot(int a) {
        if (a <= 0) {
            return GREATEST_INT;
        }
        // r * r is whole, so r * r * a <= 2^48 and r * r <= 2^48 / a, down, say the same, and only the second fits a long.
        return wholeRoot((1L << 48) / a);
    }

    public long ratio(long a, long b, long c) throws ArithmeticException {
        if (c == 0) {
            throw new ArithmeticException("the divisor is 0");
        }
        long x = magnitude(a);
        long y = magnitude(b);
        long divisor = magnitude(c);
        long high = highProduct(x, y);
        long low = x * y;
        if (!isBelow(high, divisor)) {
            throw new ArithmeticException("a long can't hold the ratio");
        }
        long whole = wholeQuotient(high, low, divisor);
        boolean hasRest = whole * divisor != low;
        boolean negative = (a ^ b ^ c) < 0;
        if (!fitsLong(whole, hasRest, negative)) {
            throw new ArithmeticException("a long can't hold the ratio");
        }
        return signedDown(whole, hasRest, negative);
    }

    public int between(int a, int b, long n, long d) throws IllegalArgumentException {
        if (d <= 0) {
            throw new IllegalArgumentException("d is not above 0");
        }
        if (n < 0 || n > d) {
            throw new IllegalArgumentException("n is not 0 .. d");
        }
        long span = (long) b - a;
        long size = magnitude(span);
        long low = size * n;
        // n is at most d, so the quotient is at most size: it always fits.
        long whole = wholeQuotient(highProduct(size, n), low, d);
        return (int) (a + signedDown(whole, whole * d != low, span < 0));
    }

    public int channel(int a) {
        int held = Math.max(0, Math.min(a, ONE));
        return (BYTE_ONE * held + ONE / 2) >> 16;
    }

    public int fixed(int c) throws IllegalArgumentException {
        if (!isByte(c)) {
            throw new IllegalArgumentException("c is not 0 .. 255");
        }
        return nearest255th(ONE * c);
    }

    public int shade(int x, int y) throws IllegalArgumentException {
        if (!isByte(x) || !isByte(y)) {
            throw new IllegalArgumentException("x or y is not 0 .. 255");
        }
        return nearest255th(x * y);
    }

    public int fromHalf(int h) {
        boolean negative = (h & HALF_SIGN) != 0;
        int exponent = (h >> 10) & 31;
        int fraction = h & HALF_FRACTION;
        if (exponent == HALF_NOT_FINITE) {
            return fraction != 0 ? 0 : negative ? LEAST_INT : GREATEST_INT;
        }
        long digits = exponent == 0 ? fraction : HALF_LEADING_BIT + fraction;
        // Halves with exponent 0 lie on the same steps as those with exponent 1.
        int steps = Math.max(exponent, 1);
        // The sign comes before the shift to the right, which then goes down for numbers below 0 too.
        long signed = negative ? -digits : digits;
        return cut(steps >= 9 ? signed << (steps - 9) : signed >> (9 - steps));
    }

    public int toHalf(int a) {
        int sign = a < 0 ? HALF_SIGN : 0;
        long size = magnitude(a);
        if (size < 4) {
            // Below 2^-14 halves have exponent 0 and steps of 2^-24, of which a fixed number's step holds 256.
            return sign | (int) (size << 8);
        }
        int top = highestBit(size);
        int exponent = top - 1;
        int digits = top <= 10 ? (int) (size << (10 - top)) : nearestEven(size, top - 10);
        // Added, not joined: digits rounded up to 2048 carry into the exponent and leave the fraction 0.
        return sign | ((exponent << 10) + (digits - HALF_LEADING_BIT));
    }

    private static int cut(long value) {
        return (int) Math.max((long) LEAST_INT, Math.min(value, (long) GREATEST_INT));
    }

    /** The greatest r with r * r not above a square of 0 .. 2^48. */
    private static int wholeRoot(long square) {
        long found = 0;
        for (int bit = 24; bit >= 0; bit--) {
            long tried = found + (1L << bit);
            if (tried * tried <= square) {
                found = tried;
            }
        }
        return (int) found;
    }

    /** Without sign: the least long answers itself, which is 2^63 to those who read it without sign. */
    private static long magnitude(long value) {
        return value < 0 ? -value : value;
    }

    /** Of two longs without sign. */
    private static boolean isBelow(long x, long y) {
        return (x ^ LEAST_LONG) < (y ^ LEAST_LONG);
    }

    /** The upper 64 of the 128 bits of x * y, all without sign. */
    private static long highProduct(long x, long y) {
        long xLow = x & LOW_32_BITS;
        long xHigh = x >>> 32;
        long yLow = y & LOW_32_BITS;
        long yHigh = y >>> 32;
        long middle = xHigh * yLow + ((xLow * yLow) >>> 32);
        // Only half of the middle joins the second cross product: the whole could pass 64 bits.
        long otherMiddle = xLow * yHigh + (middle & LOW_32_BITS);
        return xHigh * yHigh + (middle >>> 32) + (otherMiddle >>> 32);
    }

    /**
     * The 128 bits high, low by a divisor of at most 2^63, without sign.
     * With high below the divisor the answer has 64 bits, and the rest never loses a bit when it is doubled.
     */
    private static long wholeQuotient(long high, long low, long divisor) {
        long rest = high;
        long whole = 0;
        for (int bit = 63; bit >= 0; bit--) {
            rest = (rest << 1) | ((low >>> bit) & 1);
            whole = whole << 1;
            if (!isBelow(rest, divisor)) {
                rest -= divisor;
                whole |= 1;
            }
        }
        return whole;
    }

    /** Whether signedDown is exact; whole is without sign. */
    private static boolean fitsLong(long whole, boolean hasRest, boolean negative) {
        return whole >= 0 || (whole == LEAST_LONG && negative && !hasRest);
    }

    private static long signedDown(long whole, boolean hasRest, boolean negative) {
        if (!negative) {
            return whole;
        }
        return hasRest ? -whole - 1 : -whole;
    }

    private static boolean isByte(int value) {
        return value >= 0 && value <= BYTE_ONE;
    }

    /** For a dividend of 0 .. 65536 * 255. */
    private static int nearest255th(int dividend) {
        return (2 * dividend + BYTE_ONE) / (2 * BYTE_ONE);
    }

    /** For a size of 1 .. 2^31. */
    private static int highestBit(long size) {
        int bit = 31;
        while (bit > 0 && (size >> bit) == 0) {
            bit--;
        }
        return bit;
    }

    /** size / 2^shift to the nearest whole number, of two that are as near the even one; shift is at least 1. */
    private static int nearestEven(long size, int shift) {
        long whole = size >> shift;
        long twiceRest = (size - (whole << shift)) << 1;
        long step = 1L << shift;
        boolean up = twiceRest > step || (twiceRest == step && (whole & 1) == 1);
        return (int) (up ? whole + 1 : whole);
    }
}
