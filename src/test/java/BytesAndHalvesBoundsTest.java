/** Each sentence of promises 8 to 12 that names a boundary: answers worked out by hand on both its sides. */
public final class BytesAndHalvesBoundsTest extends Calls {
    private static final int LEAST = Integer.MIN_VALUE;
    private static final int GREATEST = Integer.MAX_VALUE;
    private static final int SIGN = 32768;
    private static final int ENDLESS = 31744;
    private static final int[] NO_BYTES = {-1, 256, -255, 257, 65536, -65536, GREATEST, LEAST};

    public static void main(String[] args) {
        channelBelow();
        channelAbove();
        channelNearest();
        fixedNearest();
        fixedRange();
        shadeNearest();
        shadeRange();
        fromHalfLowestBits();
        fromHalfDownCut();
        fromHalfEndless();
        fromHalfNone();
        toHalfNearest();
        toHalfEven();
        toHalfZero();
        Due.end();
    }

    private static void channelBelow() {
        Due.sentence("Promise 8: taken as 0 if it is below");
        channel(1, 0);
        channel(0, 0);
        channel(-1, 0);
        channel(-129, 0);
        channel(-65536, 0);
        channel(-8421505, 0);
        channel(LEAST, 0);
    }

    private static void channelAbove() {
        Due.sentence("Promise 8: as 65536 if it is above");
        channel(65535, 255);
        channel(65536, 255);
        channel(65537, 255);
        channel(65665, 255);
        // 255 times this is just past an int.
        channel(8421505, 255);
        channel(GREATEST, 255);
    }

    private static void channelNearest() {
        Due.sentence("Promise 8: 255 * a / 65536, nearest");
        channel(128, 0);
        channel(129, 1);
        channel(32767, 127);
        channel(32768, 128);
        channel(65407, 254);
        channel(65408, 255);
    }

    private static void fixedNearest() {
        Due.sentence("Promise 9: 65536 * c / 255, nearest");
        fixed(0, 0);
        fixed(1, 257);
        fixed(127, 32639);
        fixed(128, 32897);
        fixed(254, 65279);
        fixed(255, 65536);
    }

    private static void fixedRange() {
        Due.sentence("Promise 9: IllegalArgumentException if it is not 0 .. 255");
        fixed(0, 0);
        fixed(255, 65536);
        for (int c : NO_BYTES) {
            fixedRefused(c);
        }
    }

    private static void shadeNearest() {
        Due.sentence("Promise 10: x * y / 255, nearest");
        shade(0, 0, 0);
        shade(0, 255, 0);
        shade(255, 0, 0);
        shade(1, 127, 0);
        shade(1, 128, 1);
        shade(128, 1, 1);
        shade(255, 1, 1);
        shade(254, 254, 253);
        shade(255, 254, 254);
        shade(255, 255, 255);
    }

    private static void shadeRange() {
        Due.sentence("Promise 10: IllegalArgumentException if they are not 0 .. 255");
        shade(0, 0, 0);
        shade(255, 255, 255);
        for (int wrong : NO_BYTES) {
            shadeRefused(wrong, 0);
            shadeRefused(0, wrong);
            shadeRefused(wrong, 255);
            shadeRefused(255, wrong);
            shadeRefused(wrong, wrong);
        }
        shadeRefused(-1, 256);
        shadeRefused(256, -1);
    }

    private static void fromHalfLowestBits() {
        Due.sentence("Promise 11: The half in the lowest 16 bits");
        fromHalf(65535, 0);
        fromHalf(65536, 0);
        fromHalf(65536 + 15360, 65536);
        fromHalf(LEAST, 0);
        fromHalf(LEAST + 15360, 65536);
        fromHalf(-65536, 0);
        fromHalf(-65536 + 15360, 65536);
        fromHalf(-65536 + 48128, -65536);
        fromHalf(-65536 + ENDLESS, 2147483647);
        fromHalf(65536 + (SIGN | ENDLESS), -2147483648);
        fromHalf(GREATEST, 0);
        fromHalf(-1, 0);
    }

    private static void fromHalfDownCut() {
        Due.sentence("Promise 11: 65536 times it, down, cut");
        fromHalf(0, 0);
        fromHalf(SIGN, 0);
        fromHalf(1, 0);
        fromHalf(SIGN | 1, -1);
        fromHalf(255, 0);
        fromHalf(256, 1);
        fromHalf(SIGN | 256, -1);
        fromHalf(SIGN | 257, -2);
        fromHalf(1025, 4);
        fromHalf(SIGN | 1025, -5);
        fromHalf(9215, 1023);
        fromHalf(SIGN | 9215, -1024);
        fromHalf(9217, 1025);
        fromHalf(SIGN | 9217, -1025);
        fromHalf(30719, 2146435072);
        fromHalf(30720, 2147483647);
        fromHalf(ENDLESS - 1, 2147483647);
        fromHalf(SIGN | 30719, -2146435072);
        fromHalf(SIGN | 30720, -2147483648);
        fromHalf(SIGN | ENDLESS - 1, -2147483648);
    }

    private static void fromHalfEndless() {
        Due.sentence("Promise 11: endless ones as 2^31 - 1 and -2^31");
        fromHalf(ENDLESS, 2147483647);
        fromHalf(SIGN | ENDLESS, -2147483648);
    }

    private static void fromHalfNone() {
        Due.sentence("Promise 11: none as 0");
        for (int f = 1; f <= 1023; f++) {
            fromHalf(ENDLESS + f, 0);
            fromHalf(SIGN | ENDLESS + f, 0);
        }
    }

    private static void toHalfNearest() {
        Due.sentence("Promise 12: The half that is nearest to a fixed number");
        bothSigns(1, 256);
        bothSigns(3, 768);
        bothSigns(4, 1024);
        bothSigns(2047, 10239);
        bothSigns(2048, 10240);
        bothSigns(4097, 11264);
        bothSigns(4099, 11265);
        bothSigns(2145910783, 30718);
        bothSigns(2145910785, 30719);
        bothSigns(2146959359, 30719);
        bothSigns(2146959361, 30720);
        bothSigns(GREATEST, 30720);
        toHalf(LEAST, 63488);
    }

    private static void toHalfEven() {
        Due.sentence("Promise 12: of two that are as near the one with an even fraction");
        bothSigns(2049, 10240);
        bothSigns(2051, 10242);
        bothSigns(4095, 11264);
        bothSigns(4098, 11264);
        bothSigns(4102, 11266);
        bothSigns(8190, 12288);
        bothSigns(2145910784, 30718);
        bothSigns(2146959360, 30720);
    }

    private static void toHalfZero() {
        Due.sentence("Promise 12: 0 without sign");
        toHalf(0, 0);
        toHalf(-1, SIGN | 256);
        toHalf(1, 256);
    }

    private static void bothSigns(int a, int want) {
        toHalf(a, want);
        toHalf(-a, SIGN | want);
    }
}
