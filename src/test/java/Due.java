import java.math.BigInteger;
import java.util.Arrays;
import java.util.Random;

/** What the tests share: the count of wrong answers, exact arithmetic to judge by, and arguments to try. */
final class Due {
    static final BigInteger LEAST_INT = BigInteger.valueOf(Integer.MIN_VALUE);
    static final BigInteger GREATEST_INT = BigInteger.valueOf(Integer.MAX_VALUE);
    static final BigInteger ONE = BigInteger.valueOf(65536);

    private static final int SHOWN = 20;
    private static int calls = 0;
    private static int wrong = 0;
    private static String sentence = "";
    private static int callsBefore = 0;
    private static int shown = 0;

    private Due() {
    }

    /** A call of the face, so that its exception can be looked at. */
    interface Call {
        long answer();
    }

    /** What is looked at from here to the next sentence is that sentence's own test. */
    static void sentence(String words) {
        endSentence();
        sentence = "\"" + words + "\": ";
        callsBefore = calls;
        shown = 0;
    }

    static void answer(long got, long want, String name, long... arguments) {
        calls++;
        if (got != want) {
            tell(name, arguments, Long.toString(got), Long.toString(want));
        }
    }

    static void answer(Call call, long want, String name, long... arguments) {
        outcome(call, Long.toString(want), name, arguments);
    }

    /** The very class is asked for: a subclass of it is another exception. */
    static void exception(Call call, Class<? extends Exception> want, String name, long... arguments) {
        outcome(call, want.getName(), name, arguments);
    }

    static void that(boolean holds, String what) {
        calls++;
        if (!holds) {
            tell("does not hold: " + what);
        }
    }

    static void end() {
        endSentence();
        System.out.println(calls + " looked at, " + wrong + " wrong");
        if (wrong != 0 || calls == 0) {
            System.exit(1);
        }
    }

    static BigInteger big(long value) {
        return BigInteger.valueOf(value);
    }

    /** BigInteger's own division goes towards 0. */
    static BigInteger down(BigInteger dividend, BigInteger divisor) {
        BigInteger[] parts = dividend.divideAndRemainder(divisor);
        boolean below = parts[1].signum() != 0 && parts[1].signum() != divisor.signum();
        return below ? parts[0].subtract(BigInteger.ONE) : parts[0];
    }

    static BigInteger nearest(BigInteger dividend, BigInteger divisor) {
        return down(dividend.shiftLeft(1).add(divisor), divisor.shiftLeft(1));
    }

    static long cut(BigInteger value) {
        return value.max(LEAST_INT).min(GREATEST_INT).longValueExact();
    }

    /** Ints at and beside 0, the bounds and the powers of 2, then ints of all sizes; the same ones each time. */
    static int[] ints(int more) {
        long[] longs = numbers(31, more);
        int[] found = new int[longs.length];
        for (int i = 0; i < longs.length; i++) {
            found[i] = (int) longs[i];
        }
        return found;
    }

    static long[] longs(int more) {
        return numbers(63, more);
    }

    private static long[] numbers(int bits, int more) {
        long[] found = new long[(bits + 1) * 6 + more];
        int count = 0;
        for (int bit = 0; bit <= bits; bit++) {
            for (int beside = -1; beside <= 1; beside++) {
                found[count++] = (1L << bit) + beside;
                found[count++] = -(1L << bit) + beside;
            }
        }
        Random random = new Random(20261115L + bits);
        while (count < found.length) {
            found[count++] = random.nextLong() >> (63 - bits + random.nextInt(bits));
        }
        return found;
    }

    private static void endSentence() {
        if (!sentence.isEmpty()) {
            that(calls > callsBefore, "something is looked at");
        }
    }

    private static void outcome(Call call, String want, String name, long... arguments) {
        calls++;
        String got;
        try {
            got = Long.toString(call.answer());
        } catch (RuntimeException thrown) {
            got = thrownBy(thrown) + thrown.getClass().getName();
        }
        if (!got.equals(want)) {
            tell(name, arguments, got, want);
        }
    }

    /** The machine's own division throws what the document asks of ratio, but no throw statement wrote it. */
    private static String thrownBy(RuntimeException thrown) {
        return "/ by zero".equals(thrown.getMessage()) ? "the machine's " : "";
    }

    private static void tell(String name, long[] arguments, String got, String want) {
        tell(name + Arrays.toString(arguments) + " answered " + got + ", due is " + want);
    }

    private static void tell(String what) {
        wrong++;
        shown++;
        if (shown <= SHOWN) {
            System.out.println(sentence + what);
        }
    }
}
