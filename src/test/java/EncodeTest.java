/** Promises 4, 12, 13 and 14: encode, and rebuilt, context and runIndex as it leaves them. */
public final class EncodeTest {
    public static void main(String[] args) {
        knownPicture();
        singleSample();
        evenPictures();
        endOfARun();
        regularSample();
        tolerance();
        columnZero();
        again();
        contextsOutOfBounds();
        Check.end();
    }

    private static void codeIs(String what, GradientCoder coder, String numbers, String body) {
        int size = coder.encode();
        Check.same(what + ": size", coder.size(), size);
        Check.same(what + ": code", Face.code(coder), "255 216 " + numbers + " " + body + " 255 217");
    }

    private static void contextIs(GradientCoder coder, int q, int... due) {
        for (int what = 0; what < due.length; what++) {
            Check.same("context(" + q + ", " + what + ")", coder.context(q, what), due[what]);
        }
    }

    // The example that the standard of this way of coding (ITU-T T.87, annex H.3) works out by hand.
    private static void knownPicture() {
        int[][] samples = {{0, 0, 90, 74}, {68, 50, 43, 205}, {64, 145, 145, 145}, {100, 145, 145, 145}};
        GradientCoder coder = Face.framed(255, 0, samples);
        codeIs("T.87", coder, "4 4 255 0", "192 0 0 108 128 32 142 1 192 0 0 87 64 0 0 110 230 0 0 1 188 24 0 0 5"
            + " 216 0 0 145 96");
        Check.same("rebuilt", Face.rebuilt(coder), " rebuilt 0 0 90 74 68 50 43 205 64 145 145 145 100 145 145 145");
    }

    private static void singleSample() {
        GradientCoder coder = new GradientCoder();
        codeIs("a run of one", coder, "1 1 255 0", "128");
        Check.same("run index", coder.runIndex(), 1);
        // Bit 0, then m = 1 with K 2: bit 1 and 01.
        Check.yes("row", coder.row(0, Face.row(1)));
        codeIs("a run of none", coder, "1 1 255 0", "80");
        Check.same("run index", coder.runIndex(), 0);
        // A grows by (1 + 1 - 1) / 2.
        contextIs(coder, 366, 4, 0, 0, 2, 0);
        // e is 200 - 256 = -56, m is 112 - 1 - 1: more than 22 bits 0 would be 27, so 22 of them and 109.
        Check.yes("row", coder.row(0, Face.row(200)));
        codeIs("more than the limit", coder, "1 1 255 0", "0 0 1 109");
        contextIs(coder, 366, 59, 0, 0, 2, 1);
        contextIs(coder, 365, 4, 0, 0, 1, 0);
        // e is 44: m is 88 - 1, 21 bits 0; e is 45: m is 89, 22 of them are too many, so 88 in 8 bits.
        Check.yes("row", coder.row(0, Face.row(44)));
        codeIs("just within the limit", coder, "1 1 255 0", "0 0 3 128");
        Check.yes("row", coder.row(0, Face.row(45)));
        codeIs("just behind the limit", coder, "1 1 255 0", "0 0 1 88");
        // e is 128 - 256: m is 256 - 1 - 1; e is 127: m is 254 - 1.
        Check.yes("row", coder.row(0, Face.row(128)));
        codeIs("the least error", coder, "1 1 255 0", "0 0 1 253");
        Check.yes("row", coder.row(0, Face.row(127)));
        codeIs("the greatest error", coder, "1 1 255 0", "0 0 1 252");
    }

    private static void evenPictures() {
        // Row 0 takes 1, 1, 1, 1, row 1 and row 2 take 2, 2: eight bits 1, and a 0 behind the 255.
        GradientCoder coder = Face.framed(9, 0, new int[3][4]);
        codeIs("ends with 255", coder, "4 3 9 0", "255 0");
        Check.same("run index", coder.runIndex(), 8);
        // Row 3 takes 4: the ninth bit comes behind one that is no bit of the code.
        coder = Face.framed(9, 0, new int[4][4]);
        codeIs("goes on behind 255", coder, "4 4 9 0", "255 64");
        Check.same("run index", coder.runIndex(), 9);
        // 1, 1, 1, 1, 2 and a bit for the one that is left: the run index does not grow for it.
        coder = Face.framed(9, 0, new int[1][7]);
        codeIs("one is left", coder, "7 1 9 0", "252");
        Check.same("run index", coder.runIndex(), 5);
        coder = Face.framed(9, 0, new int[8][8]);
        // 6, 3, 2 bits 1; row 3 takes 4 and has 4 left; then 1 bit a row: 17 bits.
        codeIs("the greatest", coder, "8 8 9 0", "255 127 192");
        Check.same("run index", coder.runIndex(), 16);
        coder = Face.framed(200, 3, new int[][] {{3, 0, 2, 1}, {0, 3, 3, 3}});
        codeIs("even within NEAR", coder, "4 2 200 3", "252");
        Check.same("rebuilt", Face.rebuilt(coder), " rebuilt 0 0 0 0 0 0 0 0");
    }

    private static void endOfARun() {
        // Five samples of 0: four bits 1, then (J is 1) bit 0 and 1 in one bit. The end: context 366, A 2, K 1,
        // e = 2, m = 4 - 1: bits 0, 1, 1.
        GradientCoder coder = Face.framed(15, 0, new int[][] {{0, 0, 0, 0, 0, 2}});
        codeIs("a rest in J bits", coder, "6 1 15 0", bytes("1111" + "0" + "1" + "011"));
        Check.same("run index", coder.runIndex(), 3);
        contextIs(coder, 366, 3, 0, 0, 2, 0);
        // Row 0: bit 1, bit 0, the end with e = 5, m = 9: bits 0000, 1, 1; A grows by (9 + 1 - 1) / 2.
        // Row 1, column 0: d - b = 5 is 4: context 324, foretold 0, e = 0, K 1: bits 1, 0.
        // Column 1: a = c = 0, b = d = 5: b - c = 5 is 4: context 36, foretold 5, e = 0: bits 1, 0.
        coder = Face.framed(15, 0, new int[][] {{0, 5}, {0, 5}});
        codeIs("regular behind an end", coder, "2 2 15 0", bytes("10" + "000011" + "10" + "10"));
        contextIs(coder, 324, 2, 0, 0, 2, 0);
        contextIs(coder, 36, 2, 0, 0, 2, 0);
        contextIs(coder, 366, 6, 0, 0, 2, 0);
        kindZero();
        kindZeroFromAbove();
    }

    private static void kindZero() {
        // Row 0: three bits 1, bit 0, the end with e = 5: 000011. The run index is 2.
        // Row 1: three samples of 0: two bits 1, the run index is 4, then (J is 1) bit 0 and 1 in one bit.
        // The end: a = 0, b = 5: t = 0, SIGN 1, context 365, e = 7 - 5, K 1, m = 4: bits 00, 1, 0.
        GradientCoder coder = Face.framed(15, 0, new int[][] {{0, 0, 0, 5}, {0, 0, 0, 7}});
        codeIs("kind 0", coder, "4 2 15 0", bytes("111" + "0" + "000011" + "11" + "0" + "1" + "0010"));
        contextIs(coder, 365, 4, 0, 0, 2, 0);
        Check.same("run index", coder.runIndex(), 3);
    }

    private static void kindZeroFromAbove() {
        // Row 0: 5 ends a run of none: bit 0, 000011. Then a = 5, b = c = d = 0: c - a = -5 is -4: SIGN -1,
        // context 4, foretold 5: e = 0 with K 1: bits 1, 0; e = 0 with K 0: bit 1; e = -(0 - 5), m = 10.
        // Row 1, column 0: c is 0: b - c = 5, c - a = -5: context 36 - 4, foretold 5, e = 0: bits 1, 0.
        // Two samples of 5: two bits 1, then bit 0. The end: a = 5, b = 0: t = 0, SIGN -1, e = -(2 - 0), K 1,
        // FLIP 1, m = 3: bits 0, 1, 1.
        GradientCoder coder = Face.framed(15, 0, new int[][] {{5, 5, 5, 0}, {5, 5, 5, 2}});
        codeIs("kind 0, SIGN -1", coder, "4 2 15 0",
            bytes("0" + "000011" + "10" + "1" + "00000000001" + "10" + "11" + "0" + "011"));
        contextIs(coder, 365, 4, 0, 0, 2, 1);
        Check.same("run index", coder.runIndex(), 1);
    }

    private static void regularSample() {
        // 10 ends a run: bit 0, e = 10 - 16 = -6, m = 12 - 1 - 1, K 1: five bits 0, 1, 0.
        // Then a = 10, b = c = d = 0: c - a = -10 is -4, SIGN -1, context 4, foretold 10.
        // 7: e = 3, m = 6, K 1: 000 1 0. B = 3 - 2 is 1 and then 0, C is 1. A = 5, N = 2.
        GradientCoder coder = Face.framed(15, 0, new int[][] {{10, 7}});
        codeIs("an error above 0", coder, "2 1 15 0", bytes("0" + "0000010" + "00010"));
        contextIs(coder, 4, 5, 0, 1, 2, 0);
        contextIs(coder, 366, 7, 0, 0, 2, 1);
        // 9 instead: e = 1, m = 2: 0 1 0; B = 1 - 2, C = 1. Then a = 9, context 4 again: foretold 9 - 1,
        // A = 3, N = 2, K 1; 12: e = -4, m = 7: 000 1 1. B = -1 - 4, N = 3: B = -5 + 3, C = 0.
        coder = Face.framed(15, 0, new int[][] {{10, 9, 12}});
        codeIs("corrected by C", coder, "3 1 15 0", bytes("0" + "0000010" + "010" + "00011"));
        contextIs(coder, 4, 7, -2, 0, 3, 0);
    }

    private static void tolerance() {
        // MAXVAL 15, NEAR 1: STEP 3, RANGE 6, QB 3, LIMIT 24. 10: (10 + 1) / 3 = 3, rebuilt 9, reduced -3.
        // Context 366: A 2, K 1, FLIP 1: m = 6 - 1 - 1: 00 1 0.
        GradientCoder coder = Face.framed(15, 1, new int[][] {{10}});
        codeIs("divided", coder, "1 1 15 1", bytes("0" + "0010"));
        Check.same("rebuilt", coder.rebuilt(0, 0), 9);
        Check.same("the sample stays", coder.sample(0, 0), 10);
        contextIs(coder, 366, 4, 0, 0, 2, 1);
        // 15: (15 + 1) / 3 = 5, rebuilt 15, reduced -1: m = 2 - 1 - 1: 1 0.
        coder = Face.framed(15, 1, new int[][] {{15}});
        codeIs("divided and reduced", coder, "1 1 15 1", bytes("0" + "10"));
        Check.same("rebuilt", coder.rebuilt(0, 0), 15);
        // 14: (14 + 1) / 3 = 5, and 15 is more than MAXVAL.
        coder = Face.framed(14, 1, new int[][] {{14}});
        coder.encode();
        Check.same("rebuilt is not above MAXVAL", coder.rebuilt(0, 0), 14);
    }

    private static void columnZero() {
        // Row 0: 4 ends a run of none: bit 0, m = 7, K 1: 000 1 1.
        // Row 1: a = b = d = 4, c = 0: b - c = 4 is 4, c - a = -4 is -4: context 36 - 4, foretold 4, e = 0.
        // Row 2: c is the a of row 1, which is 4: a run of one.
        GradientCoder coder = Face.framed(15, 0, new int[][] {{4}, {4}, {4}});
        codeIs("c of column 0", coder, "1 3 15 0", bytes("0" + "00011" + "10" + "1"));
        contextIs(coder, 32, 2, 0, 0, 2, 0);
        Check.same("run index", coder.runIndex(), 1);
    }

    private static void again() {
        int[][] samples = {{12, 200, 13}, {99, 99, 99}, {1, 2, 250}};
        GradientCoder coder = Face.framed(255, 2, samples);
        coder.encode();
        String first = Face.all(coder);
        coder.encode();
        Check.same("coded again", Face.all(coder), first);
        coder.cut(4);
        coder.encode();
        Check.same("coded again behind a cut", Face.all(coder), first);
        coder.frame(2, 2, 77, 0);
        coder.encode();
        coder.frame(3, 3, 255, 2);
        Face.fill(coder, samples);
        coder.encode();
        Check.same("coded again behind another picture", Face.all(coder), first);
    }

    private static void contextsOutOfBounds() {
        GradientCoder coder = new GradientCoder();
        int[][] bad = {{-1, 0}, {367, 0}, {0, -1}, {0, 5}, {366, 5}, {-1, 5}, {Integer.MIN_VALUE, 0},
            {Integer.MAX_VALUE, 0}, {0, Integer.MIN_VALUE}, {0, Integer.MAX_VALUE}};
        for (int[] call : bad) {
            Check.same("context(" + call[0] + ", " + call[1] + ")", coder.context(call[0], call[1]), -1000000);
        }
        Check.same("context(366, 3)", coder.context(366, 3), 1);
        Check.same("context(0, 4)", coder.context(0, 4), 0);
    }

    /** Bits as bytes; these have no byte 255. */
    private static String bytes(String bits) {
        StringBuilder text = new StringBuilder();
        for (int i = 0; i < bits.length(); i += 8) {
            String piece = (bits + "0000000").substring(i, i + 8);
            text.append(i == 0 ? "" : " ").append(Integer.parseInt(piece, 2));
        }
        return text.toString();
    }
}
