/** The calls of the face with what is due for each: a test extends this to write them as short as the document does. */
abstract class Calls {
    /** What an object answers after so many calls is free, so no test looks at it. */
    static final int PROMISED_CALLS = 512;

    private static FixedNumbers numbers = new FixedNumbers();
    private static int used = 0;

    static FixedNumbers numbers() {
        if (used == PROMISED_CALLS) {
            numbers = new FixedNumbers();
            used = 0;
        }
        used++;
        return numbers;
    }

    static void product(int a, int b, long want) {
        Due.answer(() -> numbers().product(a, b), want, "product", a, b);
    }

    static void quotient(int a, int b, long want) {
        Due.answer(() -> numbers().quotient(a, b), want, "quotient", a, b);
    }

    static void root(int a, long want) {
        Due.answer(() -> numbers().root(a), want, "root", a);
    }

    static void oneByRoot(int a, long want) {
        Due.answer(() -> numbers().oneByRoot(a), want, "oneByRoot", a);
    }

    static void ratio(long a, long b, long c, long want) {
        Due.answer(() -> numbers().ratio(a, b, c), want, "ratio", a, b, c);
    }

    static void ratioRefused(long a, long b, long c) {
        Due.exception(() -> numbers().ratio(a, b, c), ArithmeticException.class, "ratio", a, b, c);
    }

    static void between(int a, int b, long n, long d, long want) {
        Due.answer(() -> numbers().between(a, b, n, d), want, "between", a, b, n, d);
    }

    static void betweenRefused(int a, int b, long n, long d) {
        Due.exception(() -> numbers().between(a, b, n, d), IllegalArgumentException.class, "between", a, b, n, d);
    }

    static void channel(int a, long want) {
        Due.answer(() -> numbers().channel(a), want, "channel", a);
    }

    static void fixed(int c, long want) {
        Due.answer(() -> numbers().fixed(c), want, "fixed", c);
    }

    static void fixedRefused(int c) {
        Due.exception(() -> numbers().fixed(c), IllegalArgumentException.class, "fixed", c);
    }

    static void shade(int x, int y, long want) {
        Due.answer(() -> numbers().shade(x, y), want, "shade", x, y);
    }

    static void shadeRefused(int x, int y) {
        Due.exception(() -> numbers().shade(x, y), IllegalArgumentException.class, "shade", x, y);
    }

    static void fromHalf(int h, long want) {
        Due.answer(() -> numbers().fromHalf(h), want, "fromHalf", h);
    }

    static void toHalf(int a, long want) {
        Due.answer(() -> numbers().toHalf(a), want, "toHalf", a);
    }
}
