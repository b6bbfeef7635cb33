/** Promise 10, and the terms behind it: the numbers of a picture, and the contexts as at first. */
public final class NumberTest {
    public static void main(String[] args) {
        outOfBounds();
        range();
        qb();
        limit();
        thresholdsFrom128();
        thresholdsBelow128();
        clampedThresholds();
        contextsAsAtFirst();
        Check.end();
    }

    private static GradientCoder framed(int maxval, int near) {
        GradientCoder coder = new GradientCoder();
        Check.yes("frame", coder.frame(2, 3, maxval, near));
        return coder;
    }

    private static void numberIs(String name, int what, int maxval, int near, int due) {
        Check.same(name + " of " + maxval + ", " + near, framed(maxval, near).number(what), due);
    }

    private static void thresholdsAre(int maxval, int near, int t1, int t2, int t3) {
        numberIs("T1", 7, maxval, near, t1);
        numberIs("T2", 8, maxval, near, t2);
        numberIs("T3", 9, maxval, near, t3);
    }

    // "BAD when what is not 0 .. 9."
    private static void outOfBounds() {
        GradientCoder coder = framed(100, 2);
        for (int what : new int[] {-1, 10, 11, -2, 256, Integer.MIN_VALUE, Integer.MAX_VALUE}) {
            Check.same("number(" + what + ")", coder.number(what), -1);
        }
        int[] due = {2, 3, 100, 2};
        for (int what = 0; what < 4; what++) {
            Check.same("number(" + what + ")", coder.number(what), due[what]);
        }
        Check.yes("number(9) is a number", coder.number(9) != -1);
    }

    // "RANGE is (MAXVAL + 2 * NEAR) / STEP + 1", rounded down: just below, at and above what STEP divides.
    private static void range() {
        numberIs("RANGE", 4, 3, 0, 4);
        numberIs("RANGE", 4, 255, 0, 256);
        numberIs("RANGE", 4, 12, 1, 5);
        numberIs("RANGE", 4, 13, 1, 6);
        numberIs("RANGE", 4, 15, 1, 6);
        numberIs("RANGE", 4, 16, 1, 7);
        numberIs("RANGE", 4, 10, 2, 3);
        numberIs("RANGE", 4, 11, 2, 4);
        numberIs("RANGE", 4, 252, 3, 37);
        numberIs("RANGE", 4, 253, 3, 38);
        numberIs("RANGE", 4, 255, 3, 38);
        // The least that there is.
        numberIs("RANGE", 4, 3, 1, 2);
        numberIs("RANGE", 4, 4, 2, 2);
        numberIs("RANGE", 4, 6, 3, 2);
        numberIs("RANGE", 4, 7, 3, 2);
        numberIs("RANGE", 4, 8, 3, 3);
    }

    // "QB is the least number with 2^QB at least RANGE".
    private static void qb() {
        numberIs("QB", 5, 3, 1, 1);
        numberIs("QB", 5, 8, 3, 2);
        numberIs("QB", 5, 3, 0, 2);
        numberIs("QB", 5, 4, 0, 3);
        numberIs("QB", 5, 7, 0, 3);
        numberIs("QB", 5, 8, 0, 4);
        numberIs("QB", 5, 127, 0, 7);
        numberIs("QB", 5, 128, 0, 8);
        numberIs("QB", 5, 255, 0, 8);
        // RANGE 32 and 33.
        numberIs("QB", 5, 93, 1, 5);
        numberIs("QB", 5, 94, 1, 6);
    }

    // "BP is the least one, 2 or more, with 2^BP at least MAXVAL + 1; LIMIT is 2 * (BP + the greater of 8 and BP)".
    private static void limit() {
        numberIs("LIMIT", 6, 3, 0, 20);
        numberIs("LIMIT", 6, 4, 0, 22);
        numberIs("LIMIT", 6, 7, 0, 22);
        numberIs("LIMIT", 6, 8, 0, 24);
        numberIs("LIMIT", 6, 63, 0, 28);
        numberIs("LIMIT", 6, 64, 0, 30);
        numberIs("LIMIT", 6, 127, 0, 30);
        numberIs("LIMIT", 6, 128, 0, 32);
        numberIs("LIMIT", 6, 255, 0, 32);
        // It goes by MAXVAL, not by RANGE.
        numberIs("LIMIT", 6, 255, 3, 32);
        numberIs("LIMIT", 6, 3, 1, 20);
    }

    // "If MAXVAL is 128 or more, with F = (MAXVAL + 128) / 256": F is 1 for each of them.
    private static void thresholdsFrom128() {
        thresholdsAre(128, 0, 3, 7, 21);
        thresholdsAre(255, 0, 3, 7, 21);
        thresholdsAre(128, 1, 6, 12, 28);
        thresholdsAre(255, 2, 9, 17, 35);
        thresholdsAre(128, 3, 12, 22, 42);
        thresholdsAre(255, 3, 12, 22, 42);
    }

    // "Otherwise, with F = 256 / (MAXVAL + 1)", where F changes.
    private static void thresholdsBelow128() {
        thresholdsAre(127, 0, 2, 3, 10);
        thresholdsAre(85, 0, 2, 3, 10);
        thresholdsAre(84, 0, 2, 3, 7);
        thresholdsAre(64, 0, 2, 3, 7);
        thresholdsAre(63, 0, 2, 3, 5);
        thresholdsAre(51, 0, 2, 3, 5);
        thresholdsAre(50, 0, 2, 3, 4);
        // F 2: 3 / 2 + 3, 7 / 2 + 5, 21 / 2 + 7; F 3: 3 / 3, 7 / 3, 21 / 3; F 4: 3 / 4, 7 / 4, 21 / 4.
        thresholdsAre(127, 1, 4, 8, 17);
        thresholdsAre(85, 1, 4, 8, 17);
        thresholdsAre(84, 1, 4, 7, 14);
        thresholdsAre(64, 1, 4, 7, 14);
        thresholdsAre(63, 1, 3, 6, 12);
        thresholdsAre(127, 3, 10, 18, 31);
        // F 7 and 8: 7 / 7, 7 / 8; 21 / 7, 21 / 8.
        thresholdsAre(35, 1, 3, 6, 10);
        thresholdsAre(31, 1, 3, 5, 9);
        // F 21 and 23: 21 / 21, 21 / 23.
        thresholdsAre(11, 1, 3, 5, 8);
        thresholdsAre(10, 1, 3, 5, 7);
    }

    // "CLAMP(i, j) is j if i is greater than MAXVAL or less than j, otherwise i": i at MAXVAL and just above it.
    private static void clampedThresholds() {
        thresholdsAre(9, 3, 9, 9, 9);
        thresholdsAre(8, 3, 4, 4, 4);
        thresholdsAre(15, 3, 9, 15, 15);
        thresholdsAre(14, 3, 9, 9, 9);
        thresholdsAre(22, 3, 9, 15, 22);
        thresholdsAre(21, 3, 9, 15, 15);
        thresholdsAre(4, 0, 2, 3, 4);
        thresholdsAre(3, 0, 2, 3, 3);
        thresholdsAre(3, 1, 3, 3, 3);
        thresholdsAre(5, 2, 3, 3, 3);
        thresholdsAre(6, 2, 6, 6, 6);
        thresholdsAre(6, 3, 4, 4, 4);
    }

    // "CONTEXTS 0 .. 366 ..., at first: A the greater of 2 and (RANGE + 32) / 64, B, C and M 0, N 1."
    private static void contextsAsAtFirst() {
        firstA(3, 0, 2);
        firstA(3, 1, 2);
        firstA(158, 0, 2);
        firstA(159, 0, 3);
        firstA(222, 0, 3);
        firstA(223, 0, 4);
        firstA(255, 0, 4);
        // RANGE 86.
        firstA(255, 1, 2);
    }

    private static void firstA(int maxval, int near, int a) {
        GradientCoder coder = framed(maxval, near);
        Check.asAtFirst("MAXVAL " + maxval + ", NEAR " + near, coder, a);
        Check.same("at first: context(367, 0)", coder.context(367, 0), -1000000);
    }
}
