/** Each sentence of "What it is" and of the terms that names a boundary: answers worked out by hand on both its sides. */
public final class TermsBoundsTest extends Calls {
    private static final int LEAST = Integer.MIN_VALUE;
    private static final int GREATEST = Integer.MAX_VALUE;
    private static final int SIGN = 32768;
    private static final int ENDLESS = 31744;

    /** A call on an object that the test has made. */
    private interface Use {
        long answer(FixedNumbers numbers);
    }

    public static void main(String[] args) {
        usedForAtMost512Calls();
        refusedCallsAmongThe512();
        down();
        cut();
        nearest();
        halvesWithLeadingBit();
        halvesWithExponent0();
        endless();
        none();
        sign();
        Due.end();
    }

    private static void usedForAtMost512Calls() {
        Due.sentence("An object is used for at most 512 calls after it has been made");
        all512("product", x -> x.product(98304, -98304), -147456);
        all512("quotient", x -> x.quotient(-65536, 3), -1431655766);
        all512("root", x -> x.root(131072), 92681);
        all512("oneByRoot", x -> x.oneByRoot(GREATEST), 362);
        all512("ratio", x -> x.ratio(Long.MIN_VALUE, Long.MIN_VALUE, Long.MIN_VALUE), Long.MIN_VALUE);
        all512("between", x -> x.between(LEAST, GREATEST, 1, 2), -1);
        all512("channel", x -> x.channel(32768), 128);
        all512("fixed", x -> x.fixed(128), 32897);
        all512("shade", x -> x.shade(1, 128), 1);
        all512("fromHalf", x -> x.fromHalf(SIGN | 1), -1);
        all512("toHalf", x -> x.toHalf(4095), 11264);
    }

    private static void all512(String name, Use use, long want) {
        FixedNumbers numbers = new FixedNumbers();
        for (int call = 1; call <= PROMISED_CALLS; call++) {
            Due.answer(() -> use.answer(numbers), want, name + " as call", call);
        }
    }

    private static void refusedCallsAmongThe512() {
        Due.sentence("An object is used for at most 512 calls, refused ones among them");
        refused511("ratio", x -> x.ratio(1, 1, 0), ArithmeticException.class);
        refused511("ratio", x -> x.ratio(Long.MIN_VALUE, 1, -1), ArithmeticException.class);
        refused511("between", x -> x.between(5, 9, 2, 1), IllegalArgumentException.class);
        refused511("fixed", x -> x.fixed(256), IllegalArgumentException.class);
        refused511("shade", x -> x.shade(-1, 255), IllegalArgumentException.class);
    }

    private static void refused511(String name, Use use, Class<? extends Exception> want) {
        FixedNumbers numbers = new FixedNumbers();
        for (int call = 1; call < PROMISED_CALLS; call++) {
            Due.exception(() -> use.answer(numbers), want, name + " as call", call);
        }
        Due.answer(() -> numbers.product(98304, -98304), -147456, "product as call", PROMISED_CALLS);
    }

    private static void down() {
        Due.sentence("DOWN: to the next whole number not above");
        product(1, 65535, 0);
        product(1, 65536, 1);
        product(-1, 65535, -1);
        product(-1, 65536, -1);
        product(-1, 65537, -2);
        quotient(1, 65537, 0);
        quotient(1, 65536, 1);
        quotient(-1, 65537, -1);
        quotient(-1, 65536, -1);
        quotient(-1, 65535, -2);
        ratio(1, 2, 3, 0);
        ratio(-1, 2, 3, -1);
        ratio(-1, 3, 3, -1);
        ratio(-1, 4, 3, -2);
        between(0, 1, 2, 3, 0);
        between(0, -1, 2, 3, -1);
        between(0, -3, 1, 3, -1);
        between(0, -4, 1, 3, -2);
        fromHalf(255, 0);
        fromHalf(256, 1);
        fromHalf(SIGN | 255, -1);
        fromHalf(SIGN | 256, -1);
        fromHalf(SIGN | 257, -2);
    }

    private static void cut() {
        Due.sentence("CUT: to the nearest of what an int holds, -2^31 .. 2^31 - 1");
        quotient(2147450879, 65535, 2147483646);
        quotient(GREATEST, 65536, 2147483647);
        quotient(2147450880, 65535, 2147483647);
        quotient(32768, 1, 2147483647);
        quotient(GREATEST, 1, 2147483647);
        quotient(-2147450879, 65535, -2147483647);
        quotient(LEAST, 65536, -2147483648);
        quotient(-2147450881, 65535, -2147483648);
        quotient(-32769, 1, -2147483648);
        quotient(LEAST, 1, -2147483648);
        fromHalf(30719, 2146435072);
        fromHalf(30720, 2147483647);
        fromHalf(31743, 2147483647);
        fromHalf(SIGN | 30719, -2146435072);
        fromHalf(SIGN | 30720, -2147483648);
        fromHalf(SIGN | 30721, -2147483648);
        fromHalf(SIGN | 31743, -2147483648);
    }

    /** Only channel(32768) has two that are as near: 255 is odd, so fixed and shade never do. */
    private static void nearest() {
        Due.sentence("NEAREST: to the nearest whole number, of two that are as near the greater one");
        channel(32767, 127);
        channel(32768, 128);
        channel(32769, 128);
        channel(128, 0);
        channel(129, 1);
        fixed(127, 32639);
        fixed(128, 32897);
        shade(1, 127, 0);
        shade(1, 128, 1);
        shade(254, 254, 253);
        shade(255, 254, 254);
    }

    private static void halvesWithLeadingBit() {
        Due.sentence("(1024 + f) * 2^(e - 25)");
        fromHalf(1 << 10, 4);
        fromHalf(1 << 10 | 1023, 7);
        fromHalf(8 << 10 | 1023, 1023);
        fromHalf(9 << 10, 1024);
        fromHalf(9 << 10 | 1, 1025);
        fromHalf(9 << 10 | 1023, 2047);
        fromHalf(10 << 10, 2048);
        fromHalf(15 << 10, 65536);
        fromHalf(15 << 10 | 1, 65600);
        fromHalf(29 << 10 | 1023, 2047 << 20);
        toHalf(4, 1 << 10);
        toHalf(7, 1 << 10 | 768);
        toHalf(1023, 8 << 10 | 1022);
        toHalf(1024, 9 << 10);
        toHalf(2047, 9 << 10 | 1023);
        toHalf(2048, 10 << 10);
        toHalf(65536, 15 << 10);
        toHalf(65600, 15 << 10 | 1);
        toHalf(2047 << 20, 29 << 10 | 1023);
    }

    private static void halvesWithExponent0() {
        Due.sentence("but f * 2^(-24) with e 0");
        fromHalf(0, 0);
        fromHalf(1, 0);
        fromHalf(255, 0);
        fromHalf(256, 1);
        fromHalf(511, 1);
        fromHalf(512, 2);
        fromHalf(767, 2);
        fromHalf(768, 3);
        fromHalf(1023, 3);
        fromHalf(1024, 4);
        fromHalf(SIGN | 1023, -4);
        toHalf(1, 256);
        toHalf(2, 512);
        toHalf(3, 768);
        toHalf(4, 1024);
    }

    private static void endless() {
        Due.sentence("with e 31 they are endless if f is 0");
        fromHalf(ENDLESS, 2147483647);
        fromHalf(SIGN | ENDLESS, -2147483648);
    }

    private static void none() {
        Due.sentence("and none else");
        fromHalf(ENDLESS - 1, 2147483647);
        fromHalf(ENDLESS + 1, 0);
        fromHalf(ENDLESS + 512, 0);
        fromHalf(ENDLESS + 1023, 0);
        fromHalf(SIGN | ENDLESS - 1, -2147483648);
        fromHalf(SIGN | ENDLESS + 1, 0);
        fromHalf(SIGN | ENDLESS + 1023, 0);
    }

    private static void sign() {
        Due.sentence("With the sign they are less than 0");
        fromHalf(SIGN - 1, 0);
        fromHalf(SIGN, 0);
        fromHalf(SIGN | 1, -1);
        fromHalf(SIGN | 1024, -4);
        fromHalf(SIGN | 15360, -65536);
        fromHalf(SIGN | ENDLESS, -2147483648);
        toHalf(1, 256);
        toHalf(-1, SIGN | 256);
        toHalf(GREATEST, 30720);
        toHalf(LEAST, SIGN | 30720);
    }
}
