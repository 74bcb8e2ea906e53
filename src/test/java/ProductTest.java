import java.math.BigInteger;

/** Promise 2: down, then the lowest 32 bits. */
public final class ProductTest extends Calls {
    public static void main(String[] args) {
        product(65536, 65536, 65536);
        product(3, 65536, 3);
        product(1, 65535, 0);
        product(-1, 1, -1);
        product(-1, 65535, -1);
        product(-1, 65536, -1);
        product(-1, 65537, -2);
        product(-3, -21846, 1);
        product(0, -5, 0);
        product(Integer.MIN_VALUE, Integer.MIN_VALUE, 0);
        product(Integer.MIN_VALUE, Integer.MAX_VALUE, 32768);
        product(Integer.MAX_VALUE, Integer.MAX_VALUE, -65536);
        product(Integer.MIN_VALUE, -65536, Integer.MIN_VALUE);
        for (int a : Due.ints(300)) {
            for (int b : Due.ints(300)) {
                BigInteger exact = Due.down(Due.big(a).multiply(Due.big(b)), Due.ONE);
                product(a, b, exact.intValue());
            }
        }
        Due.end();
    }
}
