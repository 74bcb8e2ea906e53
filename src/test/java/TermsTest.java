/** The sentences that name no boundary: what fixed numbers, bytes and halves stand for. */
public final class TermsTest extends Calls {
    private static final int ONE = 65536;
    private static final int HALF_ONE = 15360;

    public static void main(String[] args) {
        fixedNumbers();
        bytes();
        halfSign();
        halfExponent();
        halfFraction();
        halvesHave16Bits();
        fixedNumberAsByte();
        byteAsFixedNumber();
        productOfBytes();
        Due.end();
    }

    private static void fixedNumbers() {
        Due.sentence("FIXED numbers are ints: 65,536 times what they stand for");
        product(98304, 98304, 147456);
        quotient(65536, 131072, 32768);
        root(147456, 98304);
        oneByRoot(16384, 131072);
        // 182 * 182 stands for no fixed number any more.
        for (int k = 1; k <= 181; k++) {
            product(k * ONE, k * ONE, k * k * ONE);
            product(k * ONE, -k * ONE, -k * k * ONE);
            quotient(k * k * ONE, k * ONE, k * ONE);
            quotient(k * k * ONE, -k * ONE, -k * ONE);
            root(k * k * ONE, k * ONE);
            oneByRoot(k * k * ONE, ONE / k);
        }
    }

    private static void bytes() {
        Due.sentence("BYTES, 0 .. 255, are 255 times what they stand for");
        channel(0, 0);
        channel(ONE, 255);
        fixed(0, 0);
        fixed(255, ONE);
        for (int c = 0; c <= 255; c++) {
            shade(c, 0, 0);
            shade(0, c, 0);
            shade(c, 255, c);
            shade(255, c, c);
        }
    }

    private static void halfSign() {
        Due.sentence("HALVES have a sign (bit 15)");
        fromHalf(HALF_ONE, 65536);
        fromHalf(1 << 15 | HALF_ONE, -65536);
        toHalf(65536, HALF_ONE);
        toHalf(-65536, 1 << 15 | HALF_ONE);
    }

    private static void halfExponent() {
        Due.sentence("HALVES have an exponent e (bits 10 to 14)");
        exponentBit(10, 4);
        exponentBit(11, 8);
        exponentBit(12, 32);
        exponentBit(13, 512);
        exponentBit(14, 131072);
    }

    private static void exponentBit(int bit, int due) {
        fromHalf(1 << bit, due);
        toHalf(due, 1 << bit);
    }

    private static void halfFraction() {
        Due.sentence("HALVES have a fraction f (bits 0 to 9)");
        int due = 64;
        for (int bit = 0; bit <= 9; bit++) {
            fromHalf(HALF_ONE | 1 << bit, 65536 + due);
            toHalf(65536 + due, HALF_ONE | 1 << bit);
            due = 2 * due;
        }
    }

    private static void halvesHave16Bits() {
        Due.sentence("HALVES have 16 bits");
        for (int a : Due.ints(1000)) {
            long half = numbers().toHalf(a);
            Due.that(half >= 0 && half <= 65535, "toHalf(" + a + ") has 16 bits, not " + half);
        }
    }

    private static void fixedNumberAsByte() {
        Due.sentence("Promise 8: A fixed number as a byte");
        channel(13107, 51);
        channel(16384, 64);
        channel(26214, 102);
        channel(49152, 191);
        for (int a : Due.ints(1000)) {
            long c = numbers().channel(a);
            Due.that(c >= 0 && c <= 255, "channel(" + a + ") is a byte, not " + c);
        }
    }

    private static void byteAsFixedNumber() {
        Due.sentence("Promise 9: A byte as a fixed number");
        fixed(51, 13107);
        fixed(64, 16448);
        fixed(102, 26214);
        fixed(204, 52429);
        for (int c = 0; c <= 255; c++) {
            channel(numbers().fixed(c), c);
        }
    }

    private static void productOfBytes() {
        Due.sentence("Promise 10: The product of two bytes as a byte");
        shade(51, 51, 10);
        shade(51, 102, 20);
        shade(102, 51, 20);
        shade(128, 128, 64);
        shade(204, 204, 163);
    }
}
