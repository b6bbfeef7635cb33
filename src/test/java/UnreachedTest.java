import java.lang.reflect.Constructor;
import java.lang.reflect.Field;
import java.lang.reflect.Method;

/**
 * Terms: the boundaries that no picture of 8 by 8 comes to, asked of the class inside that keeps what is learnt. A
 * context is used 63 times at most (the first sample is never regular, and no two neighbours end runs), so N is never
 * 64 where it counts, and C stays within -63 .. 63; 60 samples take the run index to 16, and none are left then.
 */
public final class UnreachedTest {
    private static final int FIRST_END = 365;

    private final Class<?> type = Class.forName("GradientCoder$Contexts");
    private final Object contexts;

    public static void main(String[] args) throws ReflectiveOperationException {
        jOfTheRunIndex();
        runIndexIsAtMost31();
        runIndexIsAtLeast0();
        regularAtN64();
        regularJustBelowN64();
        endAtN64();
        endJustBelowN64();
        cIsAtLeastMinus128();
        cIsAtMost127();
        nearlyByAPicture();
        Check.end();
    }

    private UnreachedTest() throws ReflectiveOperationException {
        Constructor<?> constructor = type.getDeclaredConstructor();
        constructor.setAccessible(true);
        contexts = constructor.newInstance();
        call("restart", 16);
    }

    private int call(String name, int... arguments) throws ReflectiveOperationException {
        Class<?>[] types = new Class<?>[arguments.length];
        Object[] values = new Object[arguments.length];
        for (int i = 0; i < arguments.length; i++) {
            types[i] = int.class;
            values[i] = arguments[i];
        }
        Method method = type.getDeclaredMethod(name, types);
        method.setAccessible(true);
        Object answer = method.invoke(contexts, values);
        return answer == null ? 0 : (Integer) answer;
    }

    private Field field(String name) throws ReflectiveOperationException {
        Field field = type.getDeclaredField(name);
        field.setAccessible(true);
        return field;
    }

    private int runIndex() throws ReflectiveOperationException {
        return field("runIndex").getInt(contexts);
    }

    /** Sets A, B, C, N and M of a context. */
    private UnreachedTest with(int q, int... values) throws ReflectiveOperationException {
        String[] names = {"a", "b", "c", "n", "m"};
        for (int i = 0; i < 5; i++) {
            ((int[]) field(names[i]).get(contexts))[q] = values[i];
        }
        return this;
    }

    private void are(String what, int q, int... due) throws ReflectiveOperationException {
        String[] names = {"a", "b", "c", "n", "m"};
        for (int i = 0; i < 5; i++) {
            Check.same(what + ": " + names[i], ((int[]) field(names[i]).get(contexts))[q], due[i]);
        }
    }

    private static void regular(String what, int[] before, int e, int step, int... due)
            throws ReflectiveOperationException {
        UnreachedTest test = new UnreachedTest().with(7, before);
        test.call("learnRegular", 7, e, step);
        test.are(what, 7, due);
    }

    private static void end(String what, int t, int[] before, int e, int m, int... due)
            throws ReflectiveOperationException {
        UnreachedTest test = new UnreachedTest().with(FIRST_END + t, before);
        test.call("learnEnd", FIRST_END + t, e, m);
        test.are(what, FIRST_END + t, due);
    }

    // "J of it is 0 for 0 .. 3, 1 for 4 .. 7, 2 for 8 .. 11, 3 for 12 .. 15, 4 for 16, 17, 5 for 18, 19, 6 for 20, 21, 7
    // for 22, 23, and 8, 9, .. 15 for 24, 25, .. 31."
    private static void jOfTheRunIndex() throws ReflectiveOperationException {
        int[] due = {0, 0, 0, 0, 1, 1, 1, 1, 2, 2, 2, 2, 3, 3, 3, 3, 4, 4, 5, 5, 6, 6, 7, 7, 8, 9, 10, 11, 12, 13, 14, 15};
        UnreachedTest test = new UnreachedTest();
        for (int index = 0; index <= 31; index++) {
            Check.same("run index", test.runIndex(), index);
            Check.same("J of " + index, test.call("j"), due[index]);
            test.call("raiseRunIndex");
        }
    }

    // "and the run index 1 more if it is less than 31".
    private static void runIndexIsAtMost31() throws ReflectiveOperationException {
        UnreachedTest test = new UnreachedTest();
        for (int i = 0; i < 30; i++) {
            test.call("raiseRunIndex");
        }
        Check.same("run index", test.runIndex(), 30);
        for (int i = 0; i < 3; i++) {
            test.call("raiseRunIndex");
            Check.same("run index", test.runIndex(), 31);
        }
        Check.same("J", test.call("j"), 15);
        test.call("lowerRunIndex");
        Check.same("run index", test.runIndex(), 30);
    }

    // "and the run index is 1 less, if it is above 0."
    private static void runIndexIsAtLeast0() throws ReflectiveOperationException {
        UnreachedTest test = new UnreachedTest();
        test.call("raiseRunIndex");
        test.call("lowerRunIndex");
        Check.same("run index", test.runIndex(), 0);
        test.call("lowerRunIndex");
        Check.same("run index", test.runIndex(), 0);
    }

    // "if N is 64, A, B and N become a half, rounded down; N grows by 1."
    private static void regularAtN64() throws ReflectiveOperationException {
        regular("even", new int[] {10, -20, 5, 64, 0}, 0, 1, 5, -10, 5, 33, 0);
        // Down is away from 0 for B: -21 is -11.
        regular("odd", new int[] {11, -21, 5, 64, 0}, 0, 1, 5, -11, 5, 33, 0);
        regular("-1", new int[] {1, -1, 5, 64, 0}, 0, 1, 0, -1, 5, 33, 0);
        // e counts before they become a half: A 13, B -23; with STEP 3 B -27.
        regular("with e", new int[] {11, -21, 5, 64, 0}, -2, 1, 6, -12, 5, 33, 0);
        regular("with STEP", new int[] {11, -21, 5, 64, 0}, -2, 3, 6, -14, 5, 33, 0);
        // B is looked at behind that, against N = 33: 3 is 1, and above 0.
        regular("B above 0", new int[] {11, 0, 5, 64, 0}, 3, 1, 7, -32, 6, 33, 0);
        regular("B is -32", new int[] {11, -62, 5, 64, 0}, -2, 1, 6, -32, 5, 33, 0);
        regular("B is -33", new int[] {11, -63, 5, 64, 0}, -2, 1, 6, 0, 4, 33, 0);
        regular("B still at most -N", new int[] {11, -63, 5, 64, 0}, -80, 1, 45, -32, 4, 33, 0);
    }

    private static void regularJustBelowN64() throws ReflectiveOperationException {
        regular("N 63", new int[] {11, -21, 5, 63, 0}, 0, 1, 11, -21, 5, 64, 0);
        regular("N 65", new int[] {11, -21, 5, 65, 0}, 0, 1, 11, -21, 5, 66, 0);
    }

    // "if N is 64, A, N and M become a half, rounded down; N grows by 1."
    private static void endAtN64() throws ReflectiveOperationException {
        end("kind 1", 1, new int[] {11, 0, 0, 64, 21}, 1, 1, 5, 0, 0, 33, 10);
        // e and m count before: M 22, A 11 + 3.
        end("kind 1, below 0", 1, new int[] {11, 0, 0, 64, 21}, -4, 6, 7, 0, 0, 33, 11);
        end("kind 0", 0, new int[] {11, 0, 0, 64, 21}, 2, 4, 6, 0, 0, 33, 10);
        end("kind 0, below 0", 0, new int[] {11, 0, 0, 64, 21}, -2, 3, 6, 0, 0, 33, 11);
    }

    private static void endJustBelowN64() throws ReflectiveOperationException {
        end("N 63", 1, new int[] {11, 0, 0, 63, 21}, 1, 1, 11, 0, 0, 64, 21);
        end("N 65", 0, new int[] {11, 0, 0, 65, 21}, 0, 0, 11, 0, 0, 66, 21);
    }

    // "C is 1 less if it is above -128": B goes on as ever.
    private static void cIsAtLeastMinus128() throws ReflectiveOperationException {
        regular("C -126", new int[] {4, 0, -126, 1, 0}, -2, 1, 6, 0, -127, 2, 0);
        regular("C -127", new int[] {4, 0, -127, 1, 0}, -2, 1, 6, 0, -128, 2, 0);
        regular("C -128", new int[] {4, 0, -128, 1, 0}, -2, 1, 6, 0, -128, 2, 0);
        regular("C -128, up", new int[] {4, 0, -128, 1, 0}, 2, 1, 6, 0, -127, 2, 0);
    }

    // "C is 1 more if it is less than 127".
    private static void cIsAtMost127() throws ReflectiveOperationException {
        regular("C 125", new int[] {4, 0, 125, 1, 0}, 2, 1, 6, 0, 126, 2, 0);
        regular("C 126", new int[] {4, 0, 126, 1, 0}, 2, 1, 6, 0, 127, 2, 0);
        regular("C 127", new int[] {4, 0, 127, 1, 0}, 2, 1, 6, 0, 127, 2, 0);
        regular("C 127, down", new int[] {4, 0, 127, 1, 0}, -2, 1, 6, 0, 126, 2, 0);
    }

    // A ramp is near to it: all but row 0 and the last column have d - b = 15, b - c = 15 or 16 and c - a = -16, so they
    // use context 243 + 27 - 3, and N goes up to 50 without becoming a half.
    private static void nearlyByAPicture() {
        int[][] samples = new int[8][8];
        for (int y = 0; y < 8; y++) {
            for (int x = 0; x < 8; x++) {
                samples[y][x] = (x + 1) * 15 + y * 16;
            }
        }
        GradientCoder coder = Face.encoded(255, 0, samples);
        Check.same("used", Face.used(coder), "3x1 4x6 24x7 267x49 366x1");
        Check.same("N", coder.context(267, 3), 50);
    }
}
