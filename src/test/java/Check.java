import java.util.function.BooleanSupplier;

/** Counts and prints what is not as due; a test ends with end(). */
final class Check {
    private static int wrong = 0;
    private static int made = 0;

    private Check() {
    }

    static void same(String what, long got, long due) {
        made++;
        if (got != due) {
            tell(what + " answered " + got + ", due is " + due);
        }
    }

    static void same(String what, String got, String due) {
        made++;
        if (!got.equals(due)) {
            int from = Math.max(0, firstDifference(got, due) - 20);
            tell(what + " has .. " + piece(got, from) + ", due is .. " + piece(due, from));
        }
    }

    private static int firstDifference(String one, String other) {
        int i = 0;
        while (i < one.length() && i < other.length() && one.charAt(i) == other.charAt(i)) {
            i++;
        }
        return i;
    }

    private static String piece(String text, int from) {
        return text.substring(from, Math.min(text.length(), from + 80));
    }

    static void yes(String what, boolean got) {
        same(what, got ? 1 : 0, 1);
    }

    static void no(String what, boolean got) {
        same(what, got ? 1 : 0, 0);
    }

    /** All contexts and the run index have to be as at first, when A is this. */
    static void asAtFirst(String what, GradientCoder coder, int a) {
        int[] due = {a, 0, 0, 1, 0};
        for (int q = 0; q <= 366; q++) {
            for (int i = 0; i < 5; i++) {
                same(what + ": context(" + q + ", " + i + ")", coder.context(q, i), due[i]);
            }
        }
        same(what + ": runIndex()", coder.runIndex(), 0);
    }

    /** A call that has to answer false and to leave everything as it was. */
    static void refused(String what, GradientCoder coder, BooleanSupplier call) {
        String before = Face.all(coder);
        no(what, call.getAsBoolean());
        same("after " + what + " the state", Face.all(coder), before);
    }

    /** A reading that has to throw and to leave everything as it was. */
    static void unreadable(String what, GradientCoder coder) {
        String before = Face.all(coder);
        boolean threw = false;
        try {
            coder.decode();
        } catch (IllegalArgumentException e) {
            threw = true;
        }
        yes(what + ": decode() throws", threw);
        same("after " + what + " the state", Face.all(coder), before);
    }

    static void end() {
        System.out.println(wrong == 0 ? made + " answers are as due" : wrong + " answers are not as due");
        if (wrong != 0) {
            System.exit(1);
        }
    }

    private static void tell(String text) {
        wrong++;
        // A fault that breaks everything would fill the screen.
        if (wrong <= 40) {
            System.out.println(text);
        }
    }
}
