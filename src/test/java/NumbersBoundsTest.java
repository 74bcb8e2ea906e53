/** Each sentence of promises 2 to 7 that names a boundary: answers worked out by hand on both its sides. */
public final class NumbersBoundsTest extends Calls {
    private static final int LEAST = Integer.MIN_VALUE;
    private static final int GREATEST = Integer.MAX_VALUE;
    private static final long LEAST_LONG = Long.MIN_VALUE;
    private static final long GREATEST_LONG = Long.MAX_VALUE;

    public static void main(String[] args) {
        productDown();
        productLowestBits();
        quotientDownCut();
        quotientByZero();
        rootNotAbove();
        rootBelow0();
        oneByRootNotAbove();
        oneByRootNotAbove0();
        ratioExactDown();
        ratioBy0();
        ratioTooLarge();
        betweenDown();
        betweenWide();
        betweenWrongDivisor();
        betweenWrongShare();
        Due.end();
    }

    private static void productDown() {
        Due.sentence("Promise 2: a * b / 65536, down");
        product(0, LEAST, 0);
        product(1, 65535, 0);
        product(1, 65536, 1);
        product(-1, 1, -1);
        product(-1, 65536, -1);
        product(-1, 65537, -2);
        product(-1, -65535, 0);
        product(GREATEST, 1, 32767);
        product(GREATEST, -1, -32768);
        product(LEAST, 1, -32768);
        product(LEAST, -1, 32768);
    }

    private static void productLowestBits() {
        Due.sentence("Promise 2: of that the lowest 32 bits");
        product(GREATEST, 65536, 2147483647);
        // 2^47 - 1, the greatest product that an int still holds.
        product(10610063, 13264529, 2147483647);
        product(1073741824, 131072, -2147483648);
        product(GREATEST, 65537, -2147450882);
        product(1073741824, -131072, -2147483648);
        product(LEAST, 65536, -2147483648);
        product(LEAST, 65537, 2147450880);
        product(LEAST, -65536, -2147483648);
        product(GREATEST, GREATEST, -65536);
        product(GREATEST, LEAST, 32768);
        product(LEAST, GREATEST, 32768);
        product(LEAST, LEAST, 0);
    }

    private static void quotientDownCut() {
        Due.sentence("Promise 3: 65536 * a / b, down, cut");
        quotient(1, GREATEST, 0);
        quotient(-1, GREATEST, -1);
        quotient(1, LEAST, -1);
        quotient(-1, LEAST, 0);
        quotient(0, LEAST, 0);
        quotient(LEAST, LEAST, 65536);
        quotient(GREATEST, LEAST, -65536);
        quotient(LEAST, GREATEST, -65537);
        quotient(32767, 1, 2147418112);
        quotient(32768, 1, 2147483647);
        quotient(-32767, -1, 2147418112);
        quotient(-32768, -1, 2147483647);
        quotient(-32767, 1, -2147418112);
        quotient(-32768, 1, -2147483648);
        quotient(-32769, 1, -2147483648);
        quotient(32769, -1, -2147483648);
        quotient(GREATEST, 65536, 2147483647);
        quotient(GREATEST, 65535, 2147483647);
        quotient(LEAST, -65536, 2147483647);
        quotient(-GREATEST, -65536, 2147483647);
        quotient(LEAST, -1, 2147483647);
        quotient(GREATEST, -1, -2147483648);
    }

    private static void quotientByZero() {
        Due.sentence("Promise 3: With b 0: 2^31 - 1 if a is above 0, -2^31 if it is below, 0 if it is 0");
        quotient(1, 0, 2147483647);
        quotient(GREATEST, 0, 2147483647);
        quotient(-1, 0, -2147483648);
        quotient(LEAST, 0, -2147483648);
        quotient(0, 0, 0);
        quotient(0, 1, 0);
        quotient(0, -1, 0);
    }

    private static void rootNotAbove() {
        Due.sentence("Promise 4: The greatest r with r * r not above 65536 * a");
        root(0, 0);
        root(1, 256);
        root(3, 443);
        root(4, 512);
        root(5, 572);
        root(65535, 65535);
        root(65536, 65536);
        root(65537, 65536);
        // 46340 * 46340 is the greatest square that is an int.
        root(2147395599, 11863039);
        root(2147395600, 11863040);
        root(GREATEST, 11863283);
    }

    private static void rootBelow0() {
        Due.sentence("Promise 4: 0 if a is below 0");
        root(-1, 0);
        root(-65536, 0);
        root(LEAST, 0);
    }

    private static void oneByRootNotAbove() {
        Due.sentence("Promise 5: The greatest r with r * r * a not above 2^48");
        oneByRoot(1, 16777216);
        oneByRoot(2, 11863283);
        oneByRoot(3, 9686330);
        oneByRoot(4, 8388608);
        oneByRoot(5, 7502999);
        oneByRoot(65535, 65536);
        oneByRoot(65536, 65536);
        oneByRoot(65537, 65535);
        oneByRoot(1073741823, 512);
        oneByRoot(1073741824, 512);
        oneByRoot(1073741825, 511);
        oneByRoot(GREATEST, 362);
    }

    private static void oneByRootNotAbove0() {
        Due.sentence("Promise 5: 2^31 - 1 if a is not above 0");
        oneByRoot(0, 2147483647);
        oneByRoot(-1, 2147483647);
        oneByRoot(-65536, 2147483647);
        oneByRoot(LEAST, 2147483647);
    }

    private static void ratioExactDown() {
        Due.sentence("Promise 6: a * b / c, of the exact product, down");
        ratio(0, LEAST_LONG, LEAST_LONG, 0);
        ratio(0, -1, GREATEST_LONG, 0);
        ratio(1, 1, GREATEST_LONG, 0);
        ratio(-1, 1, GREATEST_LONG, -1);
        ratio(1, 1, LEAST_LONG, -1);
        ratio(LEAST_LONG, 1, LEAST_LONG, 1);
        ratio(GREATEST_LONG, 1, LEAST_LONG, -1);
        // Products beside 2^63 and 2^64, where a long turns round.
        ratio(1L << 62, 2, 2, 1L << 62);
        ratio(1L << 62, 4, 4, 1L << 62);
        ratio(1L << 62, 4, 3, 6148914691236517205L);
        ratio(1L << 62, -4, 3, -6148914691236517206L);
        ratio(GREATEST_LONG, GREATEST_LONG, GREATEST_LONG, GREATEST_LONG);
        ratio(GREATEST_LONG, GREATEST_LONG, LEAST_LONG, -GREATEST_LONG);
        ratio(GREATEST_LONG, LEAST_LONG, LEAST_LONG, GREATEST_LONG);
        ratio(LEAST_LONG, LEAST_LONG, LEAST_LONG, LEAST_LONG);
    }

    private static void ratioBy0() {
        Due.sentence("Promise 6: ArithmeticException if c is 0");
        ratioRefused(1, 1, 0);
        ratioRefused(-1, 1, 0);
        ratioRefused(0, 0, 0);
        ratioRefused(0, 5, 0);
        ratioRefused(GREATEST_LONG, GREATEST_LONG, 0);
        ratioRefused(LEAST_LONG, LEAST_LONG, 0);
        ratio(1, 1, 1, 1);
        ratio(1, 1, -1, -1);
    }

    private static void ratioTooLarge() {
        Due.sentence("Promise 6: ArithmeticException if a long can't hold it");
        ratio(GREATEST_LONG, 1, 1, GREATEST_LONG);
        // (2^64 - 1) / 2 lies between 2^63 - 1 and 2^63, with the sign between -2^63 and -2^63 + 1.
        ratio(4294967295L, 4294967297L, 2, GREATEST_LONG);
        ratio(4294967295L, -4294967297L, 2, LEAST_LONG);
        ratioRefused(1L << 62, 2, 1);
        ratioRefused(LEAST_LONG, 1, -1);
        ratioRefused(LEAST_LONG, -1, 1);
        ratio(LEAST_LONG, 1, 1, LEAST_LONG);
        ratio(LEAST_LONG, -1, -1, LEAST_LONG);
        ratio(1L << 62, -2, 1, LEAST_LONG);
        // (2^64 + 1) / 2 with the sign: down leaves -2^63 - 1.
        ratioRefused(274177, -67280421310721L, 2);
        ratioRefused(274177, 67280421310721L, 2);
        // 2^64 and beyond, where the lowest 64 bits alone look harmless.
        ratioRefused(1L << 62, 4, 1);
        ratioRefused(1L << 62, -4, 1);
        ratioRefused(GREATEST_LONG, GREATEST_LONG, 1);
        ratioRefused(LEAST_LONG, LEAST_LONG, 1);
        ratioRefused(LEAST_LONG, LEAST_LONG, -1);
        ratioRefused(LEAST_LONG, LEAST_LONG, GREATEST_LONG);
        ratioRefused(LEAST_LONG, LEAST_LONG, -GREATEST_LONG);
    }

    private static void betweenDown() {
        Due.sentence("Promise 7: a + (b - a) * n / d, down");
        between(0, 100, 1, 3, 33);
        between(100, 0, 1, 3, 66);
        between(-100, 0, 1, 3, -67);
        between(0, -100, 1, 3, -34);
        between(0, 1, GREATEST_LONG - 1, GREATEST_LONG, 0);
        between(0, 1, GREATEST_LONG, GREATEST_LONG, 1);
        between(1, 0, 0, GREATEST_LONG, 1);
        between(1, 0, 1, GREATEST_LONG, 0);
        between(GREATEST, GREATEST, 1, 3, GREATEST);
        between(LEAST, LEAST, 1, 3, LEAST);
        between(LEAST, LEAST + 1, 2, 3, LEAST);
        between(LEAST + 1, LEAST, 1, 3, LEAST);
    }

    private static void betweenWide() {
        Due.sentence("Promise 7: with b - a as it is (no int)");
        between(0, GREATEST, 1, 1, GREATEST);
        between(-1, GREATEST, 1, 1, GREATEST);
        between(-1, GREATEST, 1, 2, 1073741823);
        between(0, LEAST, 1, 2, -1073741824);
        between(1, LEAST, 1, 2, -1073741824);
        between(LEAST, GREATEST, 1, 2, -1);
        between(GREATEST, LEAST, 1, 2, -1);
        between(LEAST, GREATEST, 0, 1, LEAST);
        between(LEAST, GREATEST, 1, 1, GREATEST);
        between(GREATEST, LEAST, 0, 1, GREATEST);
        between(GREATEST, LEAST, 1, 1, LEAST);
        // Here (b - a) * n passes a long too.
        between(LEAST, GREATEST, GREATEST_LONG, GREATEST_LONG, GREATEST);
        between(LEAST, GREATEST, GREATEST_LONG - 1, GREATEST_LONG, GREATEST - 1);
        between(GREATEST, LEAST, GREATEST_LONG, GREATEST_LONG, LEAST);
        between(GREATEST, LEAST, GREATEST_LONG - 1, GREATEST_LONG, LEAST);
        between(GREATEST, LEAST, 1, GREATEST_LONG, GREATEST - 1);
    }

    private static void betweenWrongDivisor() {
        Due.sentence("Promise 7: IllegalArgumentException if d is not above 0");
        between(5, 9, 0, 1, 5);
        betweenRefused(5, 9, 0, 0);
        betweenRefused(5, 9, 1, 0);
        betweenRefused(5, 9, -1, 0);
        betweenRefused(5, 9, 0, -1);
        betweenRefused(5, 9, -1, -1);
        betweenRefused(5, 9, -2, -1);
        betweenRefused(5, 9, 0, LEAST_LONG);
        betweenRefused(5, 9, LEAST_LONG, LEAST_LONG);
        betweenRefused(5, 5, 0, 0);
    }

    private static void betweenWrongShare() {
        Due.sentence("Promise 7: IllegalArgumentException if n is not 0 .. d");
        betweenRefused(5, 9, -1, 1);
        between(5, 9, 0, 1, 5);
        between(5, 9, 1, 1, 9);
        betweenRefused(5, 9, 2, 1);
        betweenRefused(5, 9, -1, 4);
        between(5, 9, 4, 4, 9);
        betweenRefused(5, 9, 5, 4);
        betweenRefused(5, 9, -1, GREATEST_LONG);
        betweenRefused(5, 9, LEAST_LONG, GREATEST_LONG);
        betweenRefused(5, 9, LEAST_LONG, 1);
        betweenRefused(5, 9, GREATEST_LONG, 1);
        betweenRefused(5, 9, GREATEST_LONG, GREATEST_LONG - 1);
        between(5, 9, GREATEST_LONG, GREATEST_LONG, 9);
        betweenRefused(5, 5, 2, 1);
        betweenRefused(5, 5, -1, 1);
    }
}
