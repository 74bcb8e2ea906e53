import java.lang.reflect.Constructor;
import java.lang.reflect.Field;
import java.lang.reflect.Method;
import java.lang.reflect.Modifier;
import java.util.Arrays;
import java.util.Set;
import java.util.TreeSet;

/** The public face, and promise 1: every new object answers alike, whatever was called before. */
public final class NewObjectTest {
    private static final Set<String> FACE = new TreeSet<>(Arrays.asList(
        "int product(int,int)",
        "int quotient(int,int)",
        "int root(int)",
        "int oneByRoot(int)",
        "long ratio(long,long,long) throws java.lang.ArithmeticException",
        "int between(int,int,long,long) throws java.lang.IllegalArgumentException",
        "int channel(int)",
        "int fixed(int) throws java.lang.IllegalArgumentException",
        "int shade(int,int) throws java.lang.IllegalArgumentException",
        "int fromHalf(int)",
        "int toHalf(int)"));

    public static void main(String[] args) {
        faceIsTheDocuments();
        firstCallsOfNewObjects();
        objectsDoNotTouchOneAnother();
        answersStayForAllCalls();
        Due.end();
    }

    private static void faceIsTheDocuments() {
        Due.sentence("The public face");
        Class<?> face = FixedNumbers.class;
        Due.that(Modifier.isPublic(face.getModifiers()) && Modifier.isFinal(face.getModifiers()), "public final class");
        Constructor<?>[] constructors = face.getDeclaredConstructors();
        Due.that(constructors.length == 1 && Modifier.isPublic(constructors[0].getModifiers())
            && constructors[0].getParameterCount() == 0, "one public constructor without parameters");
        Set<String> found = new TreeSet<>();
        Set<String> names = new TreeSet<>();
        for (Method method : face.getDeclaredMethods()) {
            if (!Modifier.isPrivate(method.getModifiers())) {
                Due.that(method.getModifiers() == Modifier.PUBLIC, "public alone: " + method);
                found.add(method.toGenericString().replace("public ", "").replace("FixedNumbers.", ""));
                names.add(method.getName());
            }
        }
        Due.that(found.equals(FACE), "the face is " + FACE + ", found " + found);
        for (Method method : face.getDeclaredMethods()) {
            Due.that(!Modifier.isPrivate(method.getModifiers()) || !names.contains(method.getName()),
                "no private method bears a public one's name: " + method);
        }
        for (Field field : face.getDeclaredFields()) {
            Due.that(Modifier.isPrivate(field.getModifiers()), "no field in the face: " + field);
            Due.that(!Modifier.isStatic(field.getModifiers()) || Modifier.isFinal(field.getModifiers()),
                "static fields are final: " + field);
        }
    }

    private static void firstCallsOfNewObjects() {
        Due.sentence("Promise 1: makes an object in the state that the terms give");
        Due.answer(() -> new FixedNumbers().product(98304, -98304), -147456, "product of a new object");
        Due.answer(() -> new FixedNumbers().quotient(-65536, 3), -1431655766, "quotient of a new object");
        Due.answer(() -> new FixedNumbers().root(131072), 92681, "root of a new object");
        Due.answer(() -> new FixedNumbers().oneByRoot(1), 16777216, "oneByRoot of a new object");
        Due.answer(() -> new FixedNumbers().ratio(-7, 3, 2), -11, "ratio of a new object");
        Due.answer(() -> new FixedNumbers().between(100, 0, 1, 3), 66, "between of a new object");
        Due.answer(() -> new FixedNumbers().channel(129), 1, "channel of a new object");
        Due.answer(() -> new FixedNumbers().fixed(128), 32897, "fixed of a new object");
        Due.answer(() -> new FixedNumbers().shade(255, 128), 128, "shade of a new object");
        Due.answer(() -> new FixedNumbers().fromHalf(48128), -65536, "fromHalf of a new object");
        Due.answer(() -> new FixedNumbers().toHalf(2051), 10242, "toHalf of a new object");
    }

    private static void objectsDoNotTouchOneAnother() {
        Due.sentence("Promise 1: a new object, whatever was asked of another");
        FixedNumbers one = new FixedNumbers();
        FixedNumbers other = new FixedNumbers();
        one.product(7, 9);
        one.ratio(1L << 62, 5, 7);
        Due.answer(other.ratio(7, 3, 2), 10, "ratio of the other", 7, 3, 2);
        Due.answer(one.ratio(7, 3, 2), 10, "ratio of the one", 7, 3, 2);
    }

    private static void answersStayForAllCalls() {
        Due.sentence("Promise 1: the state stays, as no promise tells a change of it");
        FixedNumbers numbers = new FixedNumbers();
        long first = 0;
        for (int round = 0; round < 32; round++) {
            long sum = sumOfSixteenCalls(numbers);
            if (round == 0) {
                first = sum;
            }
            Due.answer(sum, first, "the same sixteen calls, round", round);
        }
    }

    private static long sumOfSixteenCalls(FixedNumbers x) {
        long sum = x.product(98304, -98304) + 3L * x.quotient(-65536, 3) + 5L * x.root(131072) + 7L * x.oneByRoot(3);
        sum = 31 * sum + x.ratio(-7, 3, 2) + 3L * x.between(100, 0, 1, 3) + 5L * x.channel(129) + 7L * x.fixed(127);
        sum = 31 * sum + x.shade(255, 128) + 3L * x.fromHalf(32769) + 5L * x.toHalf(4095) + 7L * x.toHalf(-4);
        return 31 * sum + thrown(() -> x.ratio(1, 1, 0)) + 3 * thrown(() -> x.between(5, 9, 2, 1))
            + 5 * thrown(() -> x.fixed(256)) + 7 * thrown(() -> x.shade(1, -1));
    }

    private static long thrown(Due.Call call) {
        try {
            call.answer();
            return 0;
        } catch (ArithmeticException | IllegalArgumentException expected) {
            return 1;
        }
    }
}
