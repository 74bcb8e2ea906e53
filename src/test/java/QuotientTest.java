/** Promise 3: down, cut, and what a divisor of 0 answers. */
public final class QuotientTest extends Calls {
    public static void main(String[] args) {
        byZero();
        quotient(65536, 3, 1431655765);
        quotient(-65536, 3, -1431655766);
        quotient(65536, -3, -1431655766);
        quotient(-65536, -3, 1431655765);
        quotient(0, -7, 0);
        quotient(1, Integer.MAX_VALUE, 0);
        quotient(-1, Integer.MAX_VALUE, -1);
        quotient(1, Integer.MIN_VALUE, -1);
        cuts();
        for (int a : Due.ints(300)) {
            for (int b : Due.ints(300)) {
                if (b != 0) {
                    long want = Due.cut(Due.down(Due.ONE.multiply(Due.big(a)), Due.big(b)));
                    quotient(a, b, want);
                }
            }
        }
        Due.end();
    }

    private static void byZero() {
        quotient(1, 0, Integer.MAX_VALUE);
        quotient(Integer.MAX_VALUE, 0, Integer.MAX_VALUE);
        quotient(-1, 0, Integer.MIN_VALUE);
        quotient(Integer.MIN_VALUE, 0, Integer.MIN_VALUE);
        quotient(0, 0, 0);
    }

    private static void cuts() {
        quotient(32767, 1, 2147418112);
        quotient(32768, 1, Integer.MAX_VALUE);
        quotient(-32768, 1, Integer.MIN_VALUE);
        quotient(-32769, 1, Integer.MIN_VALUE);
        quotient(32768, -1, Integer.MIN_VALUE);
        quotient(Integer.MIN_VALUE, -1, Integer.MAX_VALUE);
        quotient(Integer.MIN_VALUE, 1, Integer.MIN_VALUE);
        quotient(Integer.MAX_VALUE, 65536, Integer.MAX_VALUE);
        quotient(Integer.MAX_VALUE, 65535, Integer.MAX_VALUE);
        quotient(Integer.MIN_VALUE, -65536, Integer.MAX_VALUE);
    }
}
