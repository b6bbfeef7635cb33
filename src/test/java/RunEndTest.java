/**
 * Terms, coding: samples that end a run. Where nothing else is said MAXVAL is 15 and NEAR 0: RANGE 16, A is 2 at first,
 * so 1 has e = 1 of 0, and 15 has e = -1.
 */
public final class RunEndTest {
    public static void main(String[] args) {
        kind();
        kindUpToNear();
        kindBeyondNear();
        signAndForetold();
        withinTheRow();
        kOfKindOne();
        kOfKindZero();
        flipWithKAboveZero();
        flipWithFewBelow();
        flipWithManyBelow();
        flipOfKindZero();
        reduced();
        limit();
        learns();
        Check.end();
    }

    private static void contextIs(String what, GradientCoder coder, int q, int... due) {
        for (int i = 0; i < due.length; i++) {
            Check.same(what + ": context(" + q + ", " + i + ")", coder.context(q, i), due[i]);
        }
    }

    // "its kind t is 1 if a - b is from -NEAR to NEAR, otherwise 0 ... The context is 365 + t".
    private static void kind() {
        Check.same("a is b", Face.used(Face.encoded(15, 0, new int[][] {{0, 0, 3}})), "366x1");
        // Row 0: three 0 and 1. Row 1: three 0 again, their end has a = 0, b = 1.
        Check.same("a - b is -1", Face.used(Face.encoded(15, 0, new int[][] {{0, 0, 0, 1}, {0, 0, 0, 2}})),
            "365x1 366x1");
        // Row 0: context 1 of a = 1 for 1, 1 and 0. Row 1: 9 - 1 of c = 0, then two 1, their end has a = 1, b = 0.
        Check.same("a - b is 1", Face.used(Face.encoded(15, 0, new int[][] {{1, 1, 1, 0}, {1, 1, 1, 2}})),
            "1x3 8x1 365x1 366x1");
    }

    // MAXVAL 5, NEAR 1, as in RunsTest: the run has no samples and a and b are not the same.
    private static void kindUpToNear() {
        // The last one: a = 2, b = 3.
        GradientCoder coder = Codes.coded("a - b is -NEAR", 5, 1, new int[][] {{5, 0}, {2, 3}, {2, 0}},
            "0 10 11 010 11 10 0 10");
        Check.same("a - b is -NEAR: used", Face.used(coder), "4x1 16x1 34x1 292x1 366x2");
        // The last one: a = 1, b = 0.
        coder = Codes.coded("a - b is NEAR", 5, 1, new int[][] {{5, 2, 5, 1, 4}}, "0 10 010 11 010 0 11");
        Check.same("a - b is NEAR: used", Face.used(coder), "1x1 4x2 366x2");
    }

    private static void kindBeyondNear() {
        // The last one: a = 0, b = 2: e = 1, K 1, m = 2.
        GradientCoder coder = Codes.coded("a - b is -NEAR - 1", 5, 1, new int[][] {{0, 0, 5, 2}, {0, 0, 0, 5}},
            "11 0 10 010 11 1 0 0 010");
        Check.same("a - b is -NEAR - 1: used", Face.used(coder), "4x1 365x1 366x1");
        // The last one: a = 5, b = 3, c = 4: e = 0, m = 0.
        coder = Codes.coded("a - b is NEAR + 1", 5, 1, new int[][] {{3, 0}, {0, 3}, {4, 3}, {5, 3}},
            "0 11 010 010 11 010 10 001 0 10");
        Check.same("a - b is NEAR + 1: used", Face.used(coder), "2x1 16x3 146x2 365x1 366x1");
    }

    // "foretold is a if t is 1, otherwise b; the SIGN is -1 if t is 0 and a is greater than b, otherwise 1."
    private static void signAndForetold() {
        // Row 0: 111 0, e = 5, m = 9. Row 1: 11, then J is 1: 0 and 1. Its end: a = 0, b = 5, SIGN 1: m is 2 * e of
        // e = x - 5, and 1 less if e is below 0 (K is 1).
        String before = "111 0 000011 11 0 1 ";
        signIs(before, new int[][] {{0, 0, 0, 5}, {0, 0, 0, 7}}, "0010", 0);
        signIs(before, new int[][] {{0, 0, 0, 5}, {0, 0, 0, 5}}, "10", 0);
        signIs(before, new int[][] {{0, 0, 0, 5}, {0, 0, 0, 3}}, "011", 1);
        // Row 0: 5 ends a run of none; context 4: e is 0, 0, 5. Row 1: 36 - 4, e = 0; 11, 0. Its end: a = 5, b = 0,
        // SIGN -1: e = -x.
        before = "0 000011 10 1 00000000001 10 11 0 ";
        signIs(before, new int[][] {{5, 5, 5, 0}, {5, 5, 5, 2}}, "011", 1);
        signIs(before, new int[][] {{5, 5, 5, 0}, {5, 5, 5, 0}}, "10", 0);
        // e = -13 is 3: m = 6.
        signIs(before, new int[][] {{5, 5, 5, 0}, {5, 5, 5, 13}}, "00010", 0);
    }

    private static void signIs(String before, int[][] samples, String bits, int m) {
        GradientCoder coder = Codes.coded("ends with " + samples[1][3], 15, 0, samples, before + bits);
        Check.same("M", coder.context(365, 4), m);
    }

    // b is what is above, whatever is beside it.
    private static void withinTheRow() {
        // Row 0: 111 0, e = 5, m = 9; 9: context 4, e = -4, m = 7. Row 1: 11, 0 and 1; the end: a = 0, b = 5, d = 9:
        // e = 7 - 5, m = 4. Then a = 7, b = d = 9, c = 5: context 36 - 2, foretold 9, e = -2, m = 3.
        GradientCoder coder = Codes.coded("b 5, d 9", 15, 0, new int[][] {{0, 0, 0, 5, 9}, {0, 0, 0, 7, 7}},
            "111 0 000011 00011 11 0 1 0010 011");
        contextIs("b 5, d 9", coder, 365, 4, 0, 0, 2, 0);
        // Row 0: e = 5; context 4: 0, 0 and 5, m = 10; 9 ends a run of none: e = -7, m = 12, K 2. Row 1: 36 - 4; 11, 0;
        // the end: a = 5, b = 0, d = 9: SIGN -1, e = -2, m = 3. Then b = d = 9, c = 0, a = 2: 36 - 2, e = -7, m = 13.
        coder = Codes.coded("a 5, b 0, d 9", 15, 0, new int[][] {{5, 5, 5, 0, 9}, {5, 5, 5, 2, 2}},
            "0 000011 10 1 00000000001 0 000100 10 11 0 011 00000011");
        contextIs("a 5, b 0, d 9", coder, 365, 4, 0, 0, 2, 1);
    }

    // "K is the least with N * 2^K at least A + t * (N / 2)", N / 2 rounded down.
    private static void kOfKindOne() {
        // Each 1 ends a run of none; 0 behind it is context 1: e = 1, then, with C = 1, e = 0, e = 0.
        // A stays 2. N = 1: 2 + 0, K 1; N = 2: 2 + 1, K 1; N = 3: 2 + 1, K 0; N = 4: 2 + 2, K 0.
        GradientCoder coder = Codes.coded("K of kind 1", 15, 0, new int[][] {{1, 0, 1, 0, 1, 0, 1}},
            "0 11 010 0 11 10 0 1 1 0 1");
        contextIs("K of kind 1", coder, 366, 2, 0, 0, 5, 0);
        // A = 4 of MAXVAL 255: N = 1: 4 + 0, K 2; N = 2: 4 + 1, K 2. Context 1 has e = 1, m = 2, K 2, and C = 1 then.
        coder = Codes.coded("K of kind 1, A 4", 255, 0, new int[][] {{1, 0, 1}}, "0 101 110 0 101");
        contextIs("K of kind 1, A 4", coder, 366, 4, 0, 0, 3, 0);
    }

    private static void kOfKindZero() {
        // e = 0 leaves A 2 and makes N 2: 2 is enough for K 0. Row 2: the run index is 3 and then 5: 11, 0 0.
        GradientCoder coder = Codes.coded("K of kind 0", 15, 0, new int[][] {{0, 0, 0, 5}, {0, 0, 0, 5}, {0, 0, 0, 5}},
            "111 0 000011 11 0 1 10 11 0 0 1");
        contextIs("K of kind 0", coder, 365, 2, 0, 0, 3, 0);
        Check.same("run index", coder.runIndex(), 4);
    }

    // "FLIP is 1 if ... e is less than 0 and K is not 0": K is 1, whatever M is.
    private static void flipWithKAboveZero() {
        // M = 0: m is 2 * e - 1, and 1 less below 0.
        Codes.coded("e 1", 15, 0, new int[][] {{1}}, "0 11");
        Codes.coded("e -1", 15, 0, new int[][] {{15}}, "0 10");
        Codes.coded("e 2", 15, 0, new int[][] {{2}}, "0 011");
        Codes.coded("e -2", 15, 0, new int[][] {{14}}, "0 010");
        // M = 1 of N = 2. Between them 15 and 0: context 4, e = 15 is -1, m = 1.
        Codes.coded("e 1, M 1", 15, 0, new int[][] {{15, 0, 1}}, "0 10 11 0 11");
        Codes.coded("e -1, M 1", 15, 0, new int[][] {{15, 0, 15}}, "0 10 11 0 10");
    }

    // "FLIP is 1 if K is 0, e is above 0 and 2 * M less than N": N is 3, M is 0 and then 1.
    private static void flipWithFewBelow() {
        String before = "0 11 010 0 11 10 0 ";
        Codes.coded("M 0, e 1", 15, 0, new int[][] {{1, 0, 1, 0, 1}}, before + "1");
        Codes.coded("M 0, e -1", 15, 0, new int[][] {{1, 0, 1, 0, 15}}, before + "01");
        Codes.coded("M 0, e 2", 15, 0, new int[][] {{1, 0, 1, 0, 2}}, before + "001");
        Codes.coded("M 0, e -2", 15, 0, new int[][] {{1, 0, 1, 0, 14}}, before + "0001");
        // 15 and 0: context 4, e = -1, m = 1. 2 * M is N - 1.
        before = "0 11 010 0 10 11 0 ";
        Codes.coded("M 1, e 1", 15, 0, new int[][] {{1, 0, 15, 0, 1}}, before + "1");
        Codes.coded("M 1, e -1", 15, 0, new int[][] {{1, 0, 15, 0, 15}}, before + "01");
    }

    // "or e is less than 0 and 2 * M is at least N": N is 3 and M 2; N is 4 and M 2.
    private static void flipWithManyBelow() {
        // Context 4: e = -1 twice, K 1, m = 1.
        String before = "0 10 11 0 10 11 0 ";
        Codes.coded("M 2, e 1", 15, 0, new int[][] {{15, 0, 15, 0, 1}}, before + "01");
        Codes.coded("M 2, e -1", 15, 0, new int[][] {{15, 0, 15, 0, 15}}, before + "1");
        // 1 and 0: context 1, e = 1, m = 2. 2 * M is N.
        before += "01 010 0 ";
        GradientCoder coder = Codes.coded("2 * M is N, e 1", 15, 0, new int[][] {{15, 0, 15, 0, 1, 0, 1}},
            before + "01");
        contextIs("2 * M is N, e 1", coder, 366, 2, 0, 0, 5, 2);
        coder = Codes.coded("2 * M is N, e -1", 15, 0, new int[][] {{15, 0, 15, 0, 1, 0, 15}}, before + "1");
        contextIs("2 * M is N, e -1", coder, 366, 2, 0, 0, 5, 3);
    }

    // m is 2 * (e without its sign) - t - FLIP with t = 0, K 0, M 0 and N 2; e = 0 never has FLIP.
    private static void flipOfKindZero() {
        String before = "111 0 000011 11 0 1 10 11 0 0 ";
        int[][] rows = {{0, 0, 0, 5}, {0, 0, 0, 5}, {0, 0, 0, 5}};
        String[] bits = {"000000001", "0000001", "00001", "001", "1", "01", "0001", "000001"};
        // From e = -4 on; 1 to 8. A sample 0 would be one of the run.
        for (int x = 1; x <= 8; x++) {
            rows[2][3] = x;
            GradientCoder coder = Codes.coded("kind 0, " + x, 15, 0, rows, before + bits[x - 1]);
            int m = bits[x - 1].length() - 1;
            contextIs("kind 0, " + x, coder, 365, 2 + (m + 1) / 2, 0, 0, 3, x < 5 ? 1 : 0);
        }
        // K 1 and M 0, N 1: e = 0 has m = 0 as well.
        Codes.coded("kind 0, K 1", 15, 0, new int[][] {{0, 0, 0, 5}, {0, 0, 0, 5}}, "111 0 000011 11 0 1 10");
    }

    // "e, divided, rebuilt and reduced as above": RANGE 16 and 15, K 1.
    private static void reduced() {
        Codes.coded("7 stays", 15, 0, new int[][] {{7}}, "0 000000 1 1");
        Codes.coded("8 is -8", 15, 0, new int[][] {{8}}, "0 0000000 1 0");
        Codes.coded("7 stays", 14, 0, new int[][] {{7}}, "0 000000 1 1");
        Codes.coded("8 is -7", 14, 0, new int[][] {{8}}, "0 000000 1 0");
        // MAXVAL 15, NEAR 1: STEP 3, RANGE 6: 7 is 2, 8 is 3, and that is -3; 15 is 5, and that is -1.
        endIs(15, 1, 4, "0 11", 3);
        endIs(15, 1, 5, "0 011", 6);
        endIs(15, 1, 7, "0 011", 6);
        endIs(15, 1, 8, "0 0010", 9);
        endIs(15, 1, 15, "0 10", 15);
        // MAXVAL 14: RANGE 6 too; 14 is 5, rebuilt as MAXVAL.
        endIs(14, 1, 14, "0 10", 14);
    }

    private static void endIs(int maxval, int near, int x, String bits, int rebuilt) {
        GradientCoder coder = Codes.coded("the end " + x, maxval, near, new int[][] {{x}}, bits);
        Check.same("the end " + x + ": rebuilt", coder.rebuilt(0, 0), rebuilt);
    }

    // "WRITTEN with K and LIMIT - J - 1 (J of the run index as it was before it became less)". MAXVAL 255: K 2.
    private static void limit() {
        // J 0: 32 - 1 - 8 - 1 bits 0 at most: m = 87 is 21 * 4 + 3, m = 89 is 22 * 4 + 1.
        Codes.coded("J 0, below", 255, 0, new int[][] {{44}}, "0" + Codes.zeros(21) + "1 11");
        Codes.coded("J 0, at it", 255, 0, new int[][] {{45}}, "0" + Codes.limited(22, 88, 8));
        // Run index 3: J is 0.
        Codes.coded("run index 3", 255, 0, new int[][] {{0, 0, 0, 44}}, "111 0" + Codes.zeros(21) + "1 11");
        // Run index 4, and 3 behind it: J is 1. m = 83 is 20 * 4 + 3, m = 85 is 21 * 4 + 1.
        Codes.coded("J 1, below", 255, 0, new int[][] {{0, 0, 0, 0, 42}}, "1111 0 0" + Codes.zeros(20) + "1 11");
        Codes.coded("J 1, at it", 255, 0, new int[][] {{0, 0, 0, 0, 43}}, "1111 0 0" + Codes.limited(21, 84, 8));
        // J 3, run index 15: m = 75 is 18 * 4 + 3, m = 77 is 19 * 4 + 1.
        int[][] rows = new int[8][8];
        rows[7][7] = 38;
        Codes.coded("J 3, below", 255, 0, rows, "1".repeat(16) + "0 111" + Codes.zeros(18) + "1 11");
        rows[7][7] = 39;
        Codes.coded("J 3, at it", 255, 0, rows, "1".repeat(16) + "0 111" + Codes.limited(19, 76, 8));
        // The greatest errors.
        Codes.coded("e 127", 255, 0, new int[][] {{127}}, "0" + Codes.limited(22, 252, 8));
        Codes.coded("e -128", 255, 0, new int[][] {{128}}, "0" + Codes.limited(22, 253, 8));
        Codes.coded("e -1", 255, 0, new int[][] {{255}}, "0 100");
    }

    // "Then M grows by 1 if e is less than 0; A grows by (m + 1 - t) / 2; ... N grows by 1."
    private static void learns() {
        // t = 1: m is 0, 1, 2, 3, 13, 14.
        contextIs("m 0", Face.encoded(15, 0, new int[][] {{15}}), 366, 2, 0, 0, 2, 1);
        contextIs("m 1", Face.encoded(15, 0, new int[][] {{1}}), 366, 2, 0, 0, 2, 0);
        contextIs("m 2", Face.encoded(15, 0, new int[][] {{14}}), 366, 3, 0, 0, 2, 1);
        contextIs("m 3", Face.encoded(15, 0, new int[][] {{2}}), 366, 3, 0, 0, 2, 0);
        contextIs("m 13", Face.encoded(15, 0, new int[][] {{7}}), 366, 8, 0, 0, 2, 0);
        contextIs("m 14", Face.encoded(15, 0, new int[][] {{8}}), 366, 9, 0, 0, 2, 1);
        // t = 0 with K 1: m is 0, 1, 2, 3.
        int[][] due = {{5, 2, 0}, {4, 3, 1}, {6, 3, 0}, {3, 4, 1}, {7, 4, 0}};
        for (int[] x : due) {
            GradientCoder coder = Face.encoded(15, 0, new int[][] {{0, 0, 0, 5}, {0, 0, 0, x[0]}});
            contextIs("kind 0, " + x[0], coder, 365, x[1], 0, 0, 2, x[2]);
        }
        // Regular samples leave them alone, and they leave the others.
        GradientCoder coder = Face.encoded(15, 0, new int[][] {{15, 3, 8}});
        contextIs("one end", coder, 366, 2, 0, 0, 2, 1);
        contextIs("no end", coder, 365, 2, 0, 0, 1, 0);
        Check.same("used", Face.used(coder), "3x1 4x1 366x1");
    }
}
