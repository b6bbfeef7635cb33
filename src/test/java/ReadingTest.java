/**
 * Terms, reading: each thing that makes a code one that is not what it has to be, on its own, beside a code that is
 * what it has to be; and what is read where coding would write something else. MAXVAL is mostly 15 and NEAR 0: RANGE
 * 16, QB 4, LIMIT 24, A is 2 at first, so K is 1 where a context is used first.
 */
public final class ReadingTest {
    public static void main(String[] args) {
        begins();
        widthAndHeight();
        maxval();
        near();
        tooShort();
        bitsAsNeeded();
        notFromTheLastTwo();
        notBehind255();
        bitsZero();
        leavesASample();
        boundsOfARegularError();
        boundsOfAnEnd();
        bitsThatAreLeft();
        behindALast255();
        justTheEnd();
        bitOneInARun();
        otherCodes();
        rebuiltBelow();
        rebuiltAbove();
        Check.end();
    }

    private static void unreadable(String what, int... bytes) {
        Check.unreadable(what, Codes.holding(bytes));
    }

    private static void unreadable(String what, int width, int height, int maxval, int near, String bits) {
        Check.unreadable(what, Codes.holding(width, height, maxval, near, bits));
    }

    private static GradientCoder readable(String what, int maxval, int near, String bits, int[][] samples) {
        GradientCoder coder = Codes.holding(samples[0].length, samples.length, maxval, near, bits);
        Codes.readable(what, coder, samples);
        Check.same(what + ": MAXVAL", coder.number(2), maxval);
        Check.same(what + ": NEAR", coder.number(3), near);
        return coder;
    }

    // "it is what it has to be if it begins with 255, 216".
    private static void begins() {
        Codes.readable("255, 216", Codes.holding(255, 216, 1, 1, 15, 0, 128, 255, 217), new int[1][1]);
        for (int b : new int[] {0, 1, 127, 216, 254}) {
            unreadable("begins with " + b, b, 216, 1, 1, 15, 0, 128, 255, 217);
        }
        for (int b : new int[] {0, 88, 215, 217, 255}) {
            unreadable("begins with 255, " + b, 255, b, 1, 1, 15, 0, 128, 255, 217);
        }
        unreadable("begins with 216, 255", 216, 255, 1, 1, 15, 0, 128, 255, 217);
    }

    // "and four numbers of a picture within their bounds": what follows would be right for each of these pictures.
    private static void widthAndHeight() {
        readable("width 8", 15, 0, "111111", new int[1][8]);
        readable("height 8", 15, 0, "11111111", new int[8][1]);
        unreadable("width 9", 9, 1, 15, 0, "1111111");
        unreadable("height 9", 1, 9, 15, 0, "111111111");
        unreadable("width 0", 0, 1, 15, 0, "");
        unreadable("height 0", 1, 0, 15, 0, "");
        unreadable("width 0", 0, 1, 15, 0, "1");
        unreadable("height 0", 1, 0, 15, 0, "1");
        for (int side : new int[] {128, 255}) {
            unreadable("width " + side, side, 1, 15, 0, "11111111");
            unreadable("height " + side, 1, side, 15, 0, "11111111");
        }
    }

    private static void maxval() {
        for (int maxval : new int[] {3, 4, 254, 255}) {
            readable("MAXVAL " + maxval, maxval, 0, "11", new int[1][2]);
        }
        for (int maxval : new int[] {0, 1, 2}) {
            unreadable("MAXVAL " + maxval, 2, 1, maxval, 0, "11");
        }
    }

    private static void near() {
        int[][] good = {{255, 3}, {6, 3}, {7, 3}, {4, 2}, {5, 2}, {3, 1}, {3, 0}};
        for (int[] numbers : good) {
            readable("NEAR " + numbers[1], numbers[0], numbers[1], "11", new int[1][2]);
        }
        int[][] bad = {{255, 4}, {255, 127}, {255, 128}, {255, 255}, {5, 3}, {4, 3}, {3, 3}, {3, 2}, {8, 4}};
        for (int[] numbers : bad) {
            unreadable("NEAR " + numbers[1] + " of " + numbers[0], 2, 1, numbers[0], numbers[1], "11");
        }
    }

    // A code that is cut anywhere is none, whatever was there before stands no more.
    private static void tooShort() {
        int[] whole = Codes.bytes(1, 1, 15, 0, "1");
        for (int n = 0; n < whole.length; n++) {
            GradientCoder coder = Codes.holding(whole);
            Check.yes("cut", coder.cut(n));
            Check.unreadable("cut to " + n, coder);
        }
        unreadable("the end alone", 255, 217);
        unreadable("the end behind 255, 216", 255, 216, 255, 217);
        unreadable("the end in place of MAXVAL and NEAR", 255, 216, 1, 1, 255, 217);
        unreadable("the end in place of NEAR and a byte", 255, 216, 1, 1, 15, 255, 217);
        unreadable("the head alone", 255, 216, 1, 1, 15, 0);
        unreadable("no bytes of samples", 255, 216, 1, 1, 15, 0, 255, 217);
    }

    // "bits can be read as they are needed": the bytes end within each part of a code.
    private static void bitsAsNeeded() {
        unreadable("in a run", 8, 2, 15, 0, "11111111");
        readable("in a run", 15, 0, "111111 111", new int[2][8]);
        // One column: eight bits 1 are eight rows, and there is no ninth bit where the eighth row ends its run.
        int[][] rows = new int[8][1];
        rows[7][0] = 2;
        readable("behind the bit 0", 15, 0, "1111111 0 0 011", rows);
        unreadable("behind the bit 0", 1, 8, 15, 0, "1111111 0");
        // What is left in J bits: J is 2 in row 2 of eight columns.
        unreadable("in what is left", 255, 216, 8, 3, 15, 0, 255, 0b01000000, 255, 217);
        int[][] three = new int[3][8];
        three[2][7] = 2;
        readable("what is left", 15, 0, "111111 111 1 0 11 011", three);
        // Bits 0 of a number, at most 24 - 1 - 4 - 1 = 18 of them.
        unreadable("in the bits 0", 1, 1, 15, 0, "0 0000000");
        unreadable("in the bits 0", 1, 1, 15, 0, "0 0000000 00000000");
        readable("m 0", 15, 0, "0 10", new int[][] {{15}});
        // K is 2 of MAXVAL 255: the bit 1 is the last one of the byte; then one bit of two.
        unreadable("in K bits", 1, 1, 255, 0, "0 0000001");
        unreadable("in K bits", 1, 1, 255, 0, "0 0000011");
        readable("K bits", 255, 0, "0 000001 01", new int[][] {{11}});
        // m - 1 in 8 bits: 0, 22 bits 0, 1, and then none, and seven of them.
        unreadable("in m - 1", 1, 1, 255, 0, "0" + Codes.zeros(22) + "1");
        readable("m - 1", 255, 0, "0" + Codes.limited(22, 108, 8), new int[][] {{55}});
        // A regular sample in place of which nothing is left.
        unreadable("no regular sample", 2, 1, 15, 0, "0 0000111");
        readable("a regular sample", 15, 0, "0 000011 10", new int[][] {{5, 5}});
    }

    // "not from the last two bytes": the bits that are needed would be there, in 255 and in 217 = 11011001.
    private static void notFromTheLastTwo() {
        unreadable("eight bits 1 of 255", 255, 216, 4, 3, 15, 0, 255, 217);
        readable("eight bits 1", 15, 0, "11111111", new int[3][4]);
        // Twelve bits 1: four of them in a byte would do.
        unreadable("the rest of them of 255", 255, 216, 8, 3, 15, 0, 0b11111100, 255, 217);
        unreadable("one bit 1 of 255", 255, 216, 1, 1, 15, 0, 255, 217);
        unreadable("behind 255, a byte 217 as the first of them", 255, 216, 4, 4, 15, 0, 255, 217);
    }

    // "nor from a byte behind 255 that has its highest bit": all the other bits of it are right.
    private static void notBehind255() {
        int[][] rows = new int[7][2];
        rows[6][0] = 10;
        rows[6][1] = 10;
        Codes.readable("0 behind 255", Codes.holding(255, 216, 2, 7, 255, 0, 255, 0, 240, 255, 217), rows);
        unreadable("128 behind 255", 255, 216, 2, 7, 255, 0, 255, 128, 240, 255, 217);
        Codes.readable("64 behind 255", Codes.holding(255, 216, 4, 4, 15, 0, 255, 64, 255, 217), new int[4][4]);
        unreadable("192 behind 255", 255, 216, 4, 4, 15, 0, 255, 192, 255, 217);
        unreadable("128 behind 255", 255, 216, 4, 4, 15, 0, 255, 128, 255, 217);
        Codes.readable("127 behind 255", Codes.holding(255, 216, 8, 6, 15, 0, 255, 127, 255, 217), new int[6][8]);
        unreadable("255 behind 255", 255, 216, 8, 6, 15, 0, 255, 255, 255, 217);
        // MAXVAL 255 is no byte of samples: NEAR and what is behind it may be anything.
        Codes.readable("MAXVAL 255", Codes.holding(255, 216, 1, 1, 255, 0, 128, 255, 217), new int[1][1]);
    }

    // "no more bits 0 come before a bit 1 of a number than can be written".
    private static void bitsZero() {
        // The end of a run, J 0: 18 at most, and then m - 1 in 4 bits; one more, with bits enough behind it.
        readable("18 bits 0", 15, 0, "0" + Codes.limited(18, 4, 4), new int[][] {{3}});
        unreadable("19 bits 0", 1, 1, 15, 0, "0" + Codes.limited(19, 4, 4));
        // As many of MAXVAL 255 are m = 68: FLIP 1, e = -35.
        readable("17 bits 0 of K 2", 255, 0, "0" + Codes.limited(17, 0, 2), new int[][] {{221}});
        // J 1 has one less: 17.
        int[][] row = {{0, 0, 0, 0, 3}};
        readable("17 bits 0", 15, 0, "1111 0 0" + Codes.limited(17, 4, 4), row);
        unreadable("18 bits 0", 5, 1, 15, 0, "1111 0 0" + Codes.limited(18, 4, 4));
        // A regular sample: 19 at most. The end of 5: 000011; then e = -(x - 5): m = 4 is e = 2.
        readable("19 bits 0", 15, 0, "0 000011" + Codes.limited(19, 3, 4), new int[][] {{5, 3}});
        unreadable("20 bits 0", 2, 1, 15, 0, "0 000011" + Codes.limited(20, 3, 4));
        unreadable("many bits 0", 1, 1, 15, 0, Codes.zeros(80) + "1");
    }

    // "a run that does not end at the end of the row leaves a sample for its end".
    private static void leavesASample() {
        // Five columns: four bits 1, J is 1, one is left: 0 leaves it for the end; 1 does not, and if it were taken
        // for the end of the row the code would end well.
        readable("one is left for the end", 15, 0, "1111 0 0 011", new int[][] {{0, 0, 0, 0, 2}});
        unreadable("none is left for the end", 5, 1, 15, 0, "1111 0 1");
        unreadable("none is left for the end", 5, 1, 15, 0, "1111 0 1 011");
        // Eight columns, row 2: the run index is 9, J 2: four samples, then four are left: 3 of them leave one.
        int[][] rows = new int[3][8];
        rows[2][7] = 2;
        readable("3 of 4", 15, 0, "111111 111 1 0 11 011", rows);
        // Five columns, row 3: the run index is 8, J 2: four samples, one is left: 00 leaves it, 01 does not, and 10
        // and 11 are more than there are.
        rows = new int[4][5];
        rows[3][4] = 2;
        String before = "11111 111 111 1 0 ";
        readable("0 of 1", 15, 0, before + "00 011", rows);
        for (String rest : new String[] {"01", "10", "11"}) {
            unreadable(rest + " of 1", 5, 4, 15, 0, before + rest);
            unreadable(rest + " of 1", 5, 4, 15, 0, before + rest + " 011");
        }
        // The only column: J is 1 in row 4.
        rows = new int[5][1];
        rows[4][0] = 2;
        readable("0 of 1 column", 15, 0, "1111 0 0 011", rows);
        unreadable("1 of 1 column", 1, 5, 15, 0, "1111 0 1");
        // The same in the last row but one: what is behind it would be the next row.
        unreadable("1 of 1 column, then a row", 1, 6, 15, 0, "1111 0 1 1");
    }

    // "each e that is read (a reduced one) is at least -(RANGE / 2) and less than (RANGE + 1) / 2".
    private static void boundsOfARegularError() {
        // The end of 5: 000011; then foretold is 5, SIGN -1: x is 5 - e, and 16 more or less. m is 2 * e or
        // -2 * e - 1, K is 1. RANGE 16: -8 .. 7.
        String before = "0 000011 ";
        readable("e -8", 15, 0, before + "00000001 1", new int[][] {{5, 13}});
        readable("e 7", 15, 0, before + "00000001 0", new int[][] {{5, 14}});
        unreadable("e 8", 2, 1, 15, 0, before + "000000001 0");
        unreadable("e -9", 2, 1, 15, 0, before + "000000001 1");
        unreadable("e 8 by m - 1", 2, 1, 15, 0, before + Codes.limited(19, 15, 4));
        readable("e -8 by m - 1", 15, 0, before + Codes.limited(19, 14, 4), new int[][] {{5, 13}});
        // RANGE 15: -7 .. 7.
        readable("e -7", 14, 0, before + "0000001 1", new int[][] {{5, 12}});
        readable("e 7", 14, 0, before + "00000001 0", new int[][] {{5, 13}});
        unreadable("e -8", 2, 1, 14, 0, before + "00000001 1");
        unreadable("e 8", 2, 1, 14, 0, before + "000000001 0");
        // RANGE 256: m = 256 is e = 128. The end of 100: m = 199.
        before = "0" + Codes.limited(22, 198, 8);
        readable("e -128", 255, 0, before + Codes.limited(23, 254, 8), new int[][] {{100, 228}});
        unreadable("e 128", 2, 1, 255, 0, before + Codes.limited(23, 255, 8));
        // RANGE 2 of MAXVAL 3 and NEAR 1: -1 and 0. The end of 3: e = -1, m = 0. Then foretold is 3, SIGN -1.
        readable("e 0", 3, 1, "0 10 10", new int[][] {{3, 3}});
        readable("e -1", 3, 1, "0 10 11", new int[][] {{3, 0}});
        unreadable("e 1", 2, 1, 3, 1, "0 10 010");
        unreadable("e -2", 2, 1, 3, 1, "0 10 011");
    }

    private static void boundsOfAnEnd() {
        // K is 1, t 1: m is 2 * e - 1, or -2 * e - 2. RANGE 16: -8 .. 7.
        readable("e 7", 15, 0, "0 000000 1 1", new int[][] {{7}});
        readable("e -8", 15, 0, "0 0000000 1 0", new int[][] {{8}});
        unreadable("e 8", 1, 1, 15, 0, "0 0000000 1 1");
        unreadable("e -9", 1, 1, 15, 0, "0 00000000 1 0");
        // RANGE 15: -7 .. 7.
        readable("e 7", 14, 0, "0 000000 1 1", new int[][] {{7}});
        readable("e -7", 14, 0, "0 000000 1 0", new int[][] {{8}});
        unreadable("e -8", 1, 1, 14, 0, "0 0000000 1 0");
        unreadable("e 8", 1, 1, 14, 0, "0 0000000 1 1");
        // RANGE 256, at the limit.
        readable("e 127", 255, 0, "0" + Codes.limited(22, 252, 8), new int[][] {{127}});
        readable("e -128", 255, 0, "0" + Codes.limited(22, 253, 8), new int[][] {{128}});
        unreadable("e 128", 1, 1, 255, 0, "0" + Codes.limited(22, 254, 8));
        unreadable("e -129", 1, 1, 255, 0, "0" + Codes.limited(22, 255, 8));
        // t 0: m is 2 * e, or -2 * e - 1. Row 1 has a = 0 and b = 5 at its end.
        String before = "111 0 000011 11 0 1 ";
        int[][] rows = {{0, 0, 0, 5}, {0, 0, 0, 12}};
        readable("kind 0, e 7", 15, 0, before + "00000001 0", rows);
        rows[1][3] = 13;
        readable("kind 0, e -8", 15, 0, before + "00000001 1", rows);
        unreadable("kind 0, e 8", 4, 2, 15, 0, before + "000000001 0");
        unreadable("kind 0, e -9", 4, 2, 15, 0, before + "000000001 1");
    }

    // "at the end the bits that are left in a byte are 0".
    private static void bitsThatAreLeft() {
        Codes.readable("0000000", Codes.holding(255, 216, 1, 1, 15, 0, 128, 255, 217), new int[1][1]);
        for (int bit = 0; bit < 7; bit++) {
            unreadable("a bit 1 is left", 255, 216, 1, 1, 15, 0, 128 | 1 << bit, 255, 217);
        }
        unreadable("all bits 1 are left", 255, 216, 1, 1, 15, 0, 255, 255, 217);
        unreadable("all bits 1 are left, and 0", 255, 216, 1, 1, 15, 0, 255, 0, 255, 217);
        // Behind 255 there are seven: nine bits 1 leave six of them.
        for (int bit = 0; bit < 6; bit++) {
            unreadable("a bit 1 is left behind 255", 255, 216, 4, 4, 15, 0, 255, 64 | 1 << bit, 255, 217);
        }
        // None is left: 0 00011 10.
        Codes.readable("no bit", Codes.holding(255, 216, 1, 2, 15, 0, 0b00001110, 255, 217), new int[][] {{4}, {4}});
    }

    // "a byte 255 that was the last is followed by 0".
    private static void behindALast255() {
        Codes.readable("0", Codes.holding(255, 216, 4, 3, 15, 0, 255, 0, 255, 217), new int[3][4]);
        for (int b : new int[] {1, 64, 127, 128, 217, 255}) {
            unreadable("255, " + b, 255, 216, 4, 3, 15, 0, 255, b, 255, 217);
        }
        unreadable("the end", 255, 216, 4, 3, 15, 0, 255, 255, 217);
        unreadable("217", 255, 216, 4, 3, 15, 0, 255, 217);
        unreadable("0, 0", 255, 216, 4, 3, 15, 0, 255, 0, 0, 255, 217);
        // Behind another byte no 0 may come.
        unreadable("127, 0", 255, 216, 8, 6, 15, 0, 255, 127, 0, 255, 217);
        unreadable("128, 0", 255, 216, 1, 1, 15, 0, 128, 0, 255, 217);
        unreadable("254, 0", 255, 216, 1, 7, 15, 0, 254, 0, 255, 217);
    }

    // "and behind that there are just 255, 217."
    private static void justTheEnd() {
        for (int b : new int[] {0, 216, 218, 255}) {
            unreadable("255, " + b, 255, 216, 1, 1, 15, 0, 128, 255, b);
        }
        for (int b : new int[] {0, 127, 217, 254}) {
            unreadable(b + ", 217", 255, 216, 1, 1, 15, 0, 128, b, 217);
        }
        unreadable("217, 255", 255, 216, 1, 1, 15, 0, 128, 217, 255);
        unreadable("255", 255, 216, 1, 1, 15, 0, 128, 255);
        unreadable("nothing", 255, 216, 1, 1, 15, 0, 128);
        unreadable("the end twice", 255, 216, 1, 1, 15, 0, 128, 255, 217, 255, 217);
        unreadable("217 twice", 255, 216, 1, 1, 15, 0, 128, 255, 217, 217);
        unreadable("255 twice", 255, 216, 1, 1, 15, 0, 128, 255, 255, 217);
        unreadable("a byte behind it", 255, 216, 1, 1, 15, 0, 128, 255, 217, 0);
        unreadable("a byte before it", 255, 216, 1, 1, 15, 0, 128, 128, 255, 217);
        // Eight samples' worth of bits for four samples.
        unreadable("samples too many", 255, 216, 4, 1, 15, 0, 0b11110000, 0b11110000, 255, 217);
    }

    // "(A bit 1 in a run stands for 2^J samples, or for all that are left in the row if these are fewer; the run index
    // grows for the first only.)"
    private static void bitOneInARun() {
        // J 1: two are left, one is left.
        Check.same("2^J", readable("2 of 2", 15, 0, "1111 1", new int[1][6]).runIndex(), 5);
        Check.same("fewer", readable("1 of 2", 15, 0, "1111 1", new int[1][5]).runIndex(), 4);
        // J 2, row 3 of five columns: 4, and one is left.
        Check.same("fewer", readable("1 of 4", 15, 0, "11111 111 111 1 1", new int[4][5]).runIndex(), 9);
        // J 3, row 3 of eight columns: 4, and four are left.
        Check.same("fewer", readable("4 of 8", 15, 0, "111111 111 11 1 1", new int[4][8]).runIndex(), 12);
        Check.same("2^J", readable("8 of 8", 15, 0, "111111 111 11 1 1 1", new int[5][8]).runIndex(), 13);
        // The bit behind it is one of the next row: 0 ends a run of none there.
        int[][] rows = {{0, 0, 0, 0, 0}, {2, 2, 2, 2, 2}};
        GradientCoder coder = readable("and a row", 15, 0, "1111 1 0 0 011 10 1 1 1", rows);
        Check.same("run index", coder.runIndex(), 3);
    }

    // "(What is read may be another code than coding would give.)"
    private static void otherCodes() {
        // m = 1 by m - 1 in 4 bits, where 11 would do; coded again it is shorter.
        GradientCoder coder = readable("a number at the limit", 15, 0, "0" + Codes.limited(18, 0, 4), new int[][] {{1}});
        Check.same("encode()", coder.encode(), 9);
        Check.same("the code", Face.code(coder), Codes.text(Codes.bytes(1, 1, 15, 0, "0 11")));
        // The end of a run is what the run is: a = 0, b = 5, e = -5 with K 1: m = 9.
        int[][] rows = {{0, 0, 0, 5}, {0, 0, 0, 0}};
        coder = readable("an end that is a", 15, 0, "111 0 000011 11 0 1 000011", rows);
        Check.same("run index", coder.runIndex(), 3);
        Check.same("used", Face.used(coder), "365x1 366x1");
        coder.encode();
        Check.same("the code", Face.code(coder), Codes.text(Codes.bytes(4, 2, 15, 0, "111 0 000011 11 1")));
        // m = 3 of a regular sample by m - 1 in 4 bits, where 011 would do: e = -2.
        coder = readable("a regular one at the limit", 15, 0, "0 000011" + Codes.limited(19, 2, 4), new int[][] {{5, 7}});
        Check.same("A", coder.context(4, 0), 4);
    }

    // "Rebuilt is foretold + SIGN * e * STEP; RANGE * STEP is added to it if it is less than -NEAR ...; then it is 0 if
    // it is less".
    private static void rebuiltBelow() {
        // NEAR 0: 0 stays, -1 is 15. The end of 5, then SIGN -1: e = 5, 6.
        readable("0", 15, 0, "0 000011 000001 0", new int[][] {{5, 0}});
        readable("-1", 15, 0, "0 000011 0000001 0", new int[][] {{5, 15}});
        // NEAR 1, STEP 3. MAXVAL 12, RANGE * STEP 15: row 0: e = -1: -3 is 12. Row 1: foretold 12, e = 2: 18 is 3, C = 1.
        // Row 2: SIGN -1, foretold 3 - 1, e = 1: -1 is not less than -NEAR, so it is 0.
        readable("-NEAR", 12, 1, "0 10 0010 010", new int[][] {{12}, {3}, {0}});
        // MAXVAL 6, RANGE * STEP 9: row 0: e = 1: 3. Row 1: foretold 3, e = -1: 0, C = -1. Row 2: SIGN -1, foretold
        // 0 + 1, e = 1: -2 is less than -NEAR: 7, so it is 6.
        readable("-NEAR - 1", 6, 1, "0 11 11 010", new int[][] {{3}, {0}, {6}});
        // MAXVAL 4, RANGE * STEP 9: the same; 7 is more than MAXVAL + NEAR, but what was added is not taken away again.
        readable("-NEAR - 1, once", 4, 1, "0 11 11 010", new int[][] {{3}, {0}, {4}});
        // An end: e = -1 of 0 is less than -NEAR: -1 + 16, -3 + 15.
        readable("an end of -1", 15, 0, "0 10", new int[][] {{15}});
        readable("an end of -3", 12, 1, "0 10", new int[][] {{12}});
    }

    // "and taken away if it is more than MAXVAL + NEAR; then it is ... MAXVAL if it is more."
    private static void rebuiltAbove() {
        // NEAR 0: 15 stays, 16 is 0. The end of 8: e = -8, m = 14; then SIGN -1: e = -7, -8.
        readable("MAXVAL", 15, 0, "0 00000001 0 0000001 1", new int[][] {{8, 15}});
        readable("MAXVAL + 1", 15, 0, "0 00000001 0 00000001 1", new int[][] {{8, 0}});
        // NEAR 1. MAXVAL 5: 3 and then e = -1 with SIGN -1: 6 is MAXVAL + NEAR, and is 5.
        readable("MAXVAL + NEAR", 5, 1, "0 11 11", new int[][] {{3, 5}});
        // MAXVAL 4: 6 is more than 5: -3, and that is 0.
        readable("MAXVAL + NEAR + 1", 4, 1, "0 11 11", new int[][] {{3, 0}});
        // MAXVAL 9, RANGE * STEP 12: e = 1: 3; e = 1: 6; foretold 6 + 1 by C = 1, e = 1: 10 is MAXVAL + NEAR.
        readable("MAXVAL + NEAR", 9, 1, "0 11 010 010", new int[][] {{3}, {6}, {9}});
        // MAXVAL 12, RANGE * STEP 15: 12, then e = 1 with SIGN -1: 9; foretold 9 - 1 by C = 1, e = -2: 14 is more than
        // 13: -1, and that is 0.
        readable("MAXVAL + NEAR + 1", 12, 1, "0 10 010 011", new int[][] {{12, 9, 0}});
        // An end: foretold 3 in row 2 of one column, e = 1: MAXVAL 5: 6 is 5; MAXVAL 4: 6 is -3 and 0.
        readable("an end of MAXVAL + NEAR", 5, 1, "0 11 10 0 11", new int[][] {{3}, {3}, {5}});
        readable("an end of MAXVAL + NEAR + 1", 4, 1, "0 11 10 0 11", new int[][] {{3}, {3}, {0}});
    }
}
