/** Promises 8, 9 and 10: channel, fixed and shade, each over all that is not refused. */
public final class BytesTest extends Calls {
    public static void main(String[] args) {
        channels();
        fixedNumbers();
        shades();
        for (int a : Due.ints(1000)) {
            channel(a, channelDue(a));
            if (a < 0 || a > 255) {
                refusesByte(a);
            }
        }
        Due.end();
    }

    private static void channels() {
        channel(0, 0);
        channel(128, 0);
        channel(129, 1);
        // 255 * 32768 / 65536 is 127.5: of two that are as near the greater one.
        channel(32768, 128);
        channel(32767, 127);
        channel(65535, 255);
        channel(65536, 255);
        channel(65537, 255);
        channel(Integer.MAX_VALUE, 255);
        channel(-1, 0);
        channel(Integer.MIN_VALUE, 0);
        for (int a = -300; a <= 66000; a++) {
            channel(a, channelDue(a));
        }
    }

    private static long channelDue(int a) {
        long held = a < 0 ? 0 : a > 65536 ? 65536 : a;
        return Due.nearest(Due.big(255 * held), Due.ONE).longValueExact();
    }

    private static void fixedNumbers() {
        fixed(0, 0);
        fixed(1, 257);
        fixed(127, 32639);
        fixed(128, 32897);
        fixed(254, 65279);
        fixed(255, 65536);
        for (int c = 0; c <= 255; c++) {
            fixed(c, Due.nearest(Due.big(65536L * c), Due.big(255)).longValueExact());
        }
    }

    private static void shades() {
        shade(255, 255, 255);
        shade(255, 128, 128);
        shade(1, 127, 0);
        shade(1, 128, 1);
        shade(16, 8, 1);
        shade(0, 255, 0);
        for (int x = 0; x <= 255; x++) {
            for (int y = 0; y <= 255; y++) {
                shade(x, y, Due.nearest(Due.big(x * y), Due.big(255)).longValueExact());
            }
        }
        shadeRefused(-1, -1);
        shadeRefused(256, 256);
        shadeRefused(Integer.MIN_VALUE, Integer.MIN_VALUE);
    }

    private static void refusesByte(int c) {
        fixedRefused(c);
        shadeRefused(c, 0);
        shadeRefused(0, c);
        shadeRefused(255, c);
        shadeRefused(c, 255);
    }
}
