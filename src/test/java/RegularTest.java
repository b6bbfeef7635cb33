/**
 * Terms, coding: regular samples. Most pictures have MAXVAL 15 and NEAR 0 (RANGE 16, T1 .. T3 are 2, 3, 4, A is 2 at
 * first) and one row: there b, c and d are 0, so from a = 4 on the context is 4 and SIGN -1, and e is a - x.
 */
public final class RegularTest {
    public static void main(String[] args) {
        gradients();
        gradientsWithNear();
        gradientsOfNear();
        sign();
        foretoldFromNeighbours();
        foretoldWithinThePicture();
        divided();
        rebuiltWithinThePicture();
        reduced();
        k();
        mirrored();
        notMirrored();
        limit();
        bAndC();
        bGrowsBySteps();
        Check.end();
    }

    private static void contextIs(String what, GradientCoder coder, int q, int... due) {
        for (int i = 0; i < due.length; i++) {
            Check.same(what + ": context(" + q + ", " + i + ")", coder.context(q, i), due[i]);
        }
    }

    private static void usedAre(String what, int maxval, int near, int[][] samples, String used) {
        GradientCoder coder = Face.encoded(maxval, near, samples);
        Check.same(what + ": rebuilt", Face.rebuilt(coder), Face.values(" rebuilt", samples));
        Check.same(what + ": used", Face.used(coder), used);
    }

    // "-4 if the gradient is at most -T3, else -3 if at most -T2, ... else 4": T1 .. T3 are 3, 7, 21.
    private static void gradients() {
        int[][] levels = {{1, 1}, {2, 1}, {3, 2}, {6, 2}, {7, 3}, {20, 3}, {21, 4}, {255, 4}};
        for (int[] level : levels) {
            gradientIs(255, 0, level[0], level[1]);
        }
        // MAXVAL 127: T1 .. T3 are 2, 3, 10.
        for (int[] level : new int[][] {{1, 1}, {2, 2}, {3, 3}, {9, 3}, {10, 4}, {127, 4}}) {
            gradientIs(127, 0, level[0], level[1]);
        }
        // MAXVAL 3: T1 .. T3 are 2, 3, 3, so there is no 3.
        for (int[] level : new int[][] {{1, 1}, {2, 2}, {3, 4}}) {
            gradientIs(3, 0, level[0], level[1]);
        }
    }

    private static void gradientIs(int maxval, int near, int v, int q) {
        String what = "gradient " + v + " of " + maxval + ", " + near;
        // The first one of row 1: d - b is v. The second one: b - c is v.
        usedAre(what, maxval, near, new int[][] {{0, v}, {0, v}}, 9 * q + "x1 " + 81 * q + "x1 366x1");
        // The second one of row 0: c - a is -v; the first one of row 1 has b - c and a - c; the second one: c - a is v.
        usedAre(what, maxval, near, new int[][] {{v, v}, {0, 0}}, q + "x2 " + 8 * q + "x1 366x1");
        // Row 1: d - b is -v, b - c is v, c - a is -v; then b - c is -v.
        usedAre(what, maxval, near, new int[][] {{v, 0}, {v, 0}},
            q + "x1 " + 9 * q + "x1 " + 73 * q + "x1 366x1");
        // Row 2: d - b is -v; then b - c is -v.
        usedAre(what, maxval, near, new int[][] {{v, v}, {v, 0}, {v, 0}},
            q + "x1 " + 8 * q + "x1 " + 9 * q + "x1 " + 81 * q + "x1 366x2");
    }

    // What a tolerance moves: T1 .. T3 are 6, 12, 28, then 9, 17, 35, then 12, 22, 42.
    private static void gradientsWithNear() {
        for (int[] level : new int[][] {{3, 1}, {6, 2}, {9, 2}, {12, 3}, {27, 3}, {30, 4}}) {
            gradientIs(255, 1, level[0], level[1]);
        }
        for (int[] level : new int[][] {{5, 1}, {10, 2}, {15, 2}, {20, 3}, {30, 3}, {35, 4}}) {
            gradientIs(255, 2, level[0], level[1]);
        }
        for (int[] level : new int[][] {{7, 1}, {14, 2}, {21, 2}, {28, 3}, {35, 3}, {42, 4}}) {
            gradientIs(252, 3, level[0], level[1]);
        }
    }

    // "-1 if less than -NEAR, else 0 if at most NEAR, else 1": MAXVAL 5, NEAR 1, T1 .. T3 are 3, 5, 5.
    private static void gradientsOfNear() {
        // The first one of row 2: b = a = 2, c = 5, d = 3: d - b is NEAR, b - c is -3: context 18 - 2.
        usedAre("NEAR is 0", 5, 1, new int[][] {{5, 0}, {2, 3}, {2, 0}}, "4x1 16x1 34x1 292x1 366x2");
        // The first one of row 3: b = a = 4, c = 0, d = 3: d - b is -NEAR, b - c is 4: context 18 - 2 once more.
        usedAre("-NEAR is 0", 5, 1, new int[][] {{3, 0}, {0, 3}, {4, 3}, {5, 3}}, "2x1 16x3 146x2 365x1 366x1");
        // The last one: a = c = 3, b = 5: b - c is NEAR + 1.
        usedAre("NEAR + 1 is 1", 5, 1, new int[][] {{3, 5}, {3, 0}}, "2x1 9x1 97x1 366x1");
        // The last one: a = c = 2, b = 0: b - c is -NEAR - 1.
        usedAre("-NEAR - 1 is -1", 5, 1, new int[][] {{5, 0}, {2, 0}, {2, 0}}, "4x1 9x1 34x1 97x1 292x1 366x1");
    }

    // "If the first of the three that is not 0 is less than 0, all three change their sign, and the SIGN is -1".
    private static void sign() {
        // In each picture the last sample is 1 more than foretold: with SIGN 1 C becomes 1, with -1 B becomes -1 and
        // C stays. b - c = 9: SIGN 1.
        contextIs("0, 4, 0", Face.encoded(15, 0, new int[][] {{0, 9}, {0, 10}}), 36, 3, -1, 1, 2);
        // b - c = -9.
        contextIs("0, -4, 0", Face.encoded(15, 0, new int[][] {{9, 0}, {9, 1}}), 36, 3, -1, 0, 2);
        // c - a = 9; context 4 was used for e = 0 in row 0.
        contextIs("0, 0, 4", Face.encoded(15, 0, new int[][] {{9, 9}, {0, 1}}), 4, 3, -2, 1, 3);
        // c - a = -9.
        contextIs("0, 0, -4", Face.encoded(15, 0, new int[][] {{9, 10}}), 4, 3, -1, 0, 2);
        // The first one of the last row. d - b = 9 alone; d - b = -9 with b - c = 9 and c - a = -9.
        contextIs("4, 0, 0", Face.encoded(15, 0, new int[][] {{0, 9}, {1, 1}}), 324, 3, -1, 1, 2);
        contextIs("-4, 4, -4", Face.encoded(15, 0, new int[][] {{9, 0}, {10, 0}}), 292, 3, -1, 0, 2);
        // b - c = 9 with c - a = -9.
        contextIs("0, 4, -4", Face.encoded(15, 0, new int[][] {{9}, {10}}), 32, 3, -1, 1, 2);
        // d - b = 6 with b - c = 9 and c - a = -9.
        contextIs("4, 4, -4", Face.encoded(15, 0, new int[][] {{9, 15}, {10, 10}}), 356, 3, -1, 1, 2);
    }

    // "FORETOLD is: the lesser of a and b if c is at least the greater of them; the greater of them if c is at most
    // the lesser; otherwise a + b - c": the last sample is what is foretold, so A and B stay.
    private static void foretoldFromNeighbours() {
        foretoldIs(20, 4, 10, 4);
        foretoldIs(20, 10, 4, 4);
        foretoldIs(11, 4, 10, 4);
        foretoldIs(10, 4, 10, 4);
        foretoldIs(9, 4, 10, 5);
        foretoldIs(7, 4, 10, 7);
        foretoldIs(7, 10, 4, 7);
        foretoldIs(5, 4, 10, 9);
        foretoldIs(4, 4, 10, 10);
        foretoldIs(3, 4, 10, 10);
        foretoldIs(2, 10, 4, 10);
    }

    private static void foretoldIs(int c, int b, int a, int x) {
        String what = "c " + c + ", b " + b + ", a " + a;
        GradientCoder coder = Face.encoded(255, 0, new int[][] {{c, b}, {a, x}});
        GradientCoder other = Face.encoded(255, 0, new int[][] {{c, b}, {a, x + 1}});
        int same = 0;
        int changed = 0;
        for (int q = 0; q < 365; q++) {
            // The context of the last sample is the one that it changes.
            if (coder.context(q, 0) != other.context(q, 0)) {
                changed++;
                same += coder.context(q, 0) == 4 && coder.context(q, 1) == 0 && coder.context(q, 2) == 0 ? 1 : 0;
            }
        }
        Check.same(what + ": contexts that the last sample changes", changed, 1);
        Check.same(what + ": e is 0", same, 1);
    }

    // "then, plus SIGN * C, but 0 if that is less, MAXVAL if it is more."
    private static void foretoldWithinThePicture() {
        // 8: e = -8, m = 14. 15: e = -7, m = 13: A = 9, B = -1, C = -1, N = 2. 15: 15 + 1 is more than 15, so e = 0:
        // K is 3.
        GradientCoder coder = Codes.coded("above MAXVAL", 15, 0, new int[][] {{8, 15, 15}},
            "0 000000010 00000011 1000");
        contextIs("above MAXVAL", coder, 4, 9, -1, -1, 3);
        // 14 instead: e = 15 - 14, so C and B go by foretold 15 too.
        coder = Face.encoded(15, 0, new int[][] {{8, 15, 14}});
        contextIs("above MAXVAL", coder, 4, 10, 0, -1, 3);
        // Row 1: context 36 has SIGN 1, foretold 5, e = 1: A = 3, B = -1, C = 1, N = 2. Row 3: it has SIGN -1, and
        // 0 - 1 is less than 0, so e = 0.
        coder = Face.encoded(15, 0, new int[][] {{0, 4}, {0, 5}, {9, 0}, {9, 0}});
        contextIs("below 0", coder, 36, 3, -1, 1, 3);
        // Within: C is 1, so from a = 9 foretold is 8; 12: e = -4.
        coder = Codes.coded("with C", 15, 0, new int[][] {{10, 9, 12}}, "0 0000010 010 00011");
        contextIs("with C", coder, 4, 7, -2, 0, 3);
    }

    // "it is DIVIDED: (e + NEAR) / STEP if it is above 0, otherwise -((NEAR - e) / STEP)." MAXVAL 200, NEAR 3, STEP 7.
    private static void divided() {
        // Foretold is 14. e is -(x - 14).
        int[][] rebuilt = {{0, 0}, {3, 0}, {4, 7}, {10, 7}, {11, 14}, {14, 14}, {17, 14}, {18, 21}, {24, 21}, {25, 28},
            {31, 28}, {32, 35}};
        for (int[] pair : rebuilt) {
            GradientCoder coder = Face.encoded(200, 3, new int[][] {{14, pair[0]}});
            Check.same("14, " + pair[0] + ": rebuilt", coder.rebuilt(1, 0), pair[1]);
            int e = Math.abs(pair[1] - 14) / 7;
            Check.same("14, " + pair[0] + ": A", coder.context(2, 0), 2 + e);
        }
        // STEP 1: each e is its own.
        contextIs("NEAR 0", Face.encoded(15, 0, new int[][] {{8, 7}}), 4, 3);
        contextIs("NEAR 0", Face.encoded(15, 0, new int[][] {{8, 9}}), 4, 3);
    }

    // "Rebuilt is foretold + SIGN * e * STEP, but 0 if that is less, MAXVAL if it is more."
    private static void rebuiltWithinThePicture() {
        // 203, then 200 - 28 * 7, then 4 - 7.
        GradientCoder coder = Face.encoded(200, 3, new int[][] {{200, 4, 0}});
        Check.same("rebuilt", Face.rebuilt(coder), " rebuilt 200 4 0");
        // 196, then 196 + 7.
        coder = Face.encoded(200, 3, new int[][] {{196, 200}});
        Check.same("rebuilt", Face.rebuilt(coder), " rebuilt 196 200");
        // 196 + 3 is within NEAR.
        coder = Face.encoded(200, 3, new int[][] {{196, 199}});
        Check.same("rebuilt", Face.rebuilt(coder), " rebuilt 196 196");
        // 199 is from 196 to 203: it is 196 of 0, as (199 + 3) / 7 is 28.
        coder = Face.encoded(200, 3, new int[][] {{199}});
        Check.same("rebuilt", Face.rebuilt(coder), " rebuilt 196");
        // 255 is 36 * 7 + 3.
        coder = Face.encoded(255, 3, new int[][] {{255}});
        Check.same("rebuilt", Face.rebuilt(coder), " rebuilt 252");
    }

    // "RANGE is added to it if it is less than 0; then, if it is at least (RANGE + 1) / 2, RANGE is taken away."
    private static void reduced() {
        // RANGE 16: 7 stays, 8 is -8; -8 is 8 and -8, -9 is 7; 15 is -1, -1 is 15 and -1.
        reducedIs(15, 15, 8, 9, 0, 1);
        reducedIs(15, 15, 7, 10, -1, -1);
        reducedIs(15, 7, 15, 10, -1, -1);
        reducedIs(15, 6, 15, 9, 0, 1);
        reducedIs(15, 15, 0, 3, -1, 0);
        reducedIs(15, 8, 9, 3, -1, 0);
        reducedIs(15, 8, 8, 2, 0, 0);
        // RANGE 15: 7 stays, 8 is -7; -7 is 8 and -7, -8 is 7.
        reducedIs(14, 14, 7, 9, 0, 1);
        reducedIs(14, 14, 6, 9, -1, -1);
        reducedIs(14, 7, 14, 9, -1, -1);
        reducedIs(14, 6, 14, 9, 0, 1);
        // MAXVAL 5, NEAR 1: RANGE 3. 3 is divided to 1, 5 to 2, and 2 is at least 4 / 2.
        GradientCoder coder = Face.encoded(5, 1, new int[][] {{5, 2}});
        Check.same("RANGE 3: 1 stays", coder.context(4, 2), 1);
        coder = Face.encoded(5, 1, new int[][] {{5, 0}});
        Check.same("RANGE 3: 2 is -1", coder.context(4, 2), -1);
    }

    private static void reducedIs(int maxval, int a, int x, int newA, int newB, int newC) {
        GradientCoder coder = Face.encoded(maxval, 0, new int[][] {{a, x}});
        contextIs("MAXVAL " + maxval + ": " + a + ", " + x, coder, 4, newA, newB, newC, 2, 0);
    }

    // "K is the least number from 0 on with N * 2^K at least A."
    private static void k() {
        // e is 0 each time. A = 2: N is 1, 2, 3. The end of 5: m = 9, K 1.
        Codes.coded("A 2", 15, 0, new int[][] {{5, 5, 5, 5}}, "0 000011 10 1 1");
        // A = 3 of MAXVAL 159: N is 1, 2, 3, 4. The end of 50: m = 99, K 2: 99 / 4 is more than 32 - 1 - 8 - 1.
        Codes.coded("A 3", 159, 0, new int[][] {{50, 50, 50, 50, 50}},
            "0" + Codes.limited(22, 98, 8) + "100 10 1 1");
        // A = 4 of MAXVAL 255: N is 1, 2, 3, 4.
        Codes.coded("A 4", 255, 0, new int[][] {{50, 50, 50, 50, 50}},
            "0" + Codes.limited(22, 98, 8) + "100 10 10 1");
        // e = 3 makes A 5: N = 2 has K 2. The end of 12: e = -4, m = 6. C is 1: 8 is what is foretold of 9.
        Codes.coded("A 5", 15, 0, new int[][] {{12, 9, 8}}, "0 00010 00010 100");
        // e = 2 makes A 4: N = 2 has K 1.
        Codes.coded("A 4 of N 2", 15, 0, new int[][] {{11, 9, 8}}, "0 000010 0010 10");
    }

    // "If NEAR is 0, K is 0, and 2 * B is at most -N: m is 2 * e + 1 if e is at least 0, otherwise -2 * (e + 1)".
    private static void mirrored() {
        // The end of 8: e = -8, m = 14. e is -1, -1, 0: A = 4, B = -2, N = 4. Then K is 0, and 2 * B is -N.
        String before = "0 000000010 11 11 10 ";
        Codes.coded("mirrored 0", 15, 0, new int[][] {{8, 9, 10, 10, 10}}, before + "01");
        Codes.coded("mirrored -1", 15, 0, new int[][] {{8, 9, 10, 10, 11}}, before + "1");
        Codes.coded("mirrored 1", 15, 0, new int[][] {{8, 9, 10, 10, 9}}, before + "0001");
        Codes.coded("mirrored -2", 15, 0, new int[][] {{8, 9, 10, 10, 12}}, before + "001");
        Codes.coded("mirrored 2", 15, 0, new int[][] {{8, 9, 10, 10, 8}}, before + "000001");
    }

    // "in all other cases 2 * e if e is at least 0, otherwise -2 * e - 1."
    private static void notMirrored() {
        // e is -1, 0: A = 3, B = -1, N = 3. Then K is 0, and 2 * B is -N + 1.
        String before = "0 000000010 11 10 ";
        Codes.coded("0", 15, 0, new int[][] {{8, 9, 9, 9}}, before + "1");
        Codes.coded("-1", 15, 0, new int[][] {{8, 9, 9, 10}}, before + "01");
        Codes.coded("1", 15, 0, new int[][] {{8, 9, 9, 8}}, before + "001");
        Codes.coded("-2", 15, 0, new int[][] {{8, 9, 9, 11}}, before + "0001");
        Codes.coded("2", 15, 0, new int[][] {{8, 9, 9, 7}}, before + "00001");
        // e is -1: A = 3, B = -1, N = 2: 2 * B is -N, but K is 1.
        Codes.coded("K 1", 15, 0, new int[][] {{8, 9, 10}}, "0 000000010 11 11");
        Codes.coded("K 1", 15, 0, new int[][] {{8, 9, 9}}, "0 000000010 11 10");
        // MAXVAL 30, NEAR 1: STEP 3, RANGE 11, T3 9. The end of 9: e = 3, m = 5. e is 0, 0, 0, -1: A = 3, B = -3,
        // N = 5: K is 0 and 2 * B less than -N, but NEAR is not 0.
        before = "0 0011 10 1 1 01 ";
        Codes.coded("NEAR 1, 0", 30, 1, new int[][] {{9, 9, 9, 9, 12, 12}}, before + "1");
        Codes.coded("NEAR 1, -1", 30, 1, new int[][] {{9, 9, 9, 9, 12, 15}}, before + "01");
        Codes.coded("NEAR 1, 1", 30, 1, new int[][] {{9, 9, 9, 9, 12, 9}}, before + "001");
    }

    // "m is WRITTEN with K and LIMIT": 32 - 8 - 1 bits 0 at most.
    private static void limit() {
        // The end of 100: m = 199, at its limit. e = 46: m = 92, 23 * 4: at the limit. e = -46: m = 91, 22 * 4 + 3.
        String before = "0" + Codes.limited(22, 198, 8);
        Codes.coded("at the limit", 255, 0, new int[][] {{100, 54}}, before + Codes.limited(23, 91, 8));
        Codes.coded("below the limit", 255, 0, new int[][] {{100, 146}}, before + Codes.zeros(22) + "111");
        // The greatest m: e = -128, m = 255; e = 127, m = 254.
        Codes.coded("e -128", 255, 0, new int[][] {{100, 228}}, before + Codes.limited(23, 254, 8));
        Codes.coded("e 127", 255, 0, new int[][] {{100, 229}}, before + Codes.limited(23, 253, 8));
        // MAXVAL 3: RANGE 4, QB 2, LIMIT 20; m is 3 at most, far from 17. The end of 3: e = -1, m = 0.
        Codes.coded("the least MAXVAL", 3, 0, new int[][] {{3, 1}}, "0 10 011");
    }

    // "Then, if B is at most -N: B grows by N, C is 1 less ..., and B becomes 1 - N if it is still at most -N; otherwise
    // if B is above 0: B becomes N less, C is 1 more ..., and B becomes 0 if it is still above 0." N is 2 by then.
    private static void bAndC() {
        int[][] due = {{-5, 7, -1, -1}, {-4, 6, -1, -1}, {-3, 5, -1, -1}, {-2, 4, 0, -1}, {-1, 3, -1, 0}, {0, 2, 0, 0},
            {1, 3, -1, 1}, {2, 4, 0, 1}, {3, 5, 0, 1}, {4, 6, 0, 1}};
        for (int[] e : due) {
            GradientCoder coder = Face.encoded(15, 0, new int[][] {{8, 8 - e[0]}});
            contextIs("e " + e[0], coder, 4, e[1], e[2], e[3], 2, 0);
        }
        // With N = 3: e = -1 leaves B = -1; then B is -1 + e: -3 is -N, -2 is not.
        contextIs("B is -N", Face.encoded(15, 0, new int[][] {{8, 9, 11}}), 4, 5, 0, -1, 3, 0);
        contextIs("B is 1 - N", Face.encoded(15, 0, new int[][] {{8, 9, 10}}), 4, 4, -2, 0, 3, 0);
        contextIs("B is 0", Face.encoded(15, 0, new int[][] {{8, 9, 8}}), 4, 4, 0, 0, 3, 0);
        contextIs("B is 1", Face.encoded(15, 0, new int[][] {{8, 9, 7}}), 4, 5, -2, 1, 3, 0);
        contextIs("B is N", Face.encoded(15, 0, new int[][] {{8, 9, 5}}), 4, 7, 0, 1, 3, 0);
        contextIs("B is N + 1", Face.encoded(15, 0, new int[][] {{8, 9, 4}}), 4, 8, 0, 1, 3, 0);
        // C goes on: e = 2 each time, for foretold goes down with a and with C.
        contextIs("C is 2", Face.encoded(15, 0, new int[][] {{15, 13, 10}}), 4, 6, -1, 2, 3, 0);
    }

    // "Then B grows by e * STEP, A by e without its sign": the e that is divided and reduced.
    private static void bGrowsBySteps() {
        // MAXVAL 30, NEAR 1: e = -1 of 12: B = -3, which is at most -2: -1, C = -1.
        contextIs("STEP 3", Face.encoded(30, 1, new int[][] {{9, 12}}), 4, 3, -1, -1, 2, 0);
        // e = 0 three times, then -1: B = -3, N = 5.
        contextIs("STEP 3", Face.encoded(30, 1, new int[][] {{9, 9, 9, 9, 12}}), 4, 3, -3, 0, 5, 0);
        // MAXVAL 200, NEAR 3: e = 0 twice, then -1: B = -7, N = 4: -3, C = -1. Then e = 1 of a = 49, foretold 50:
        // 43 is 50 - 7: B = 4, N = 5: -1, C = 0.
        contextIs("STEP 7", Face.encoded(200, 3, new int[][] {{42, 42, 42, 49}}), 4, 3, -3, -1, 4, 0);
        contextIs("STEP 7", Face.encoded(200, 3, new int[][] {{42, 42, 42, 49, 43}}), 4, 4, -1, 0, 5, 0);
    }
}
