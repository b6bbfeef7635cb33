/** Terms: how a number is written, how bits come into bytes, and the code round them. */
public final class BitsTest {
    public static void main(String[] args) {
        highestBitFirst();
        lowestBitsOfM();
        behind255();
        twice255();
        filledUp();
        endsWith255();
        headAndEnd();
        Check.end();
    }

    private static void bodyIs(String what, int maxval, int near, int[][] samples, int... due) {
        GradientCoder coder = Face.encoded(maxval, near, samples);
        int[] code = new int[due.length + 8];
        int[] head = {255, 216, samples[0].length, samples.length, maxval, near};
        System.arraycopy(head, 0, code, 0, 6);
        System.arraycopy(due, 0, code, 6, due.length);
        code[code.length - 2] = 255;
        code[code.length - 1] = 217;
        Check.same(what, Face.code(coder), Codes.text(code));
        Check.same(what + ": decode()", Codes.read(coder), samples.length * samples[0].length);
        Check.same(what + ": samples", Face.samples(coder), Face.values(" samples", samples));
    }

    // "BITS come into bytes, the highest bit first".
    private static void highestBitFirst() {
        bodyIs("1", 15, 0, new int[1][1], 0b10000000);
        bodyIs("11", 15, 0, new int[1][2], 0b11000000);
        bodyIs("0 011", 15, 0, new int[][] {{2}}, 0b00110000);
    }

    // "so many bits 0, a bit 1, and the lowest K bits of m, the highest first": K is 2 of MAXVAL 255.
    private static void lowestBitsOfM() {
        // e is 1, -2, 2, -3: m is 1, 2, 3, 4.
        bodyIs("m 0", 255, 0, new int[][] {{255}}, 0b01000000);
        bodyIs("m 1", 255, 0, new int[][] {{1}}, 0b01010000);
        bodyIs("m 2", 255, 0, new int[][] {{254}}, 0b01100000);
        bodyIs("m 3", 255, 0, new int[][] {{2}}, 0b01110000);
        bodyIs("m 4", 255, 0, new int[][] {{253}}, 0b00100000);
        // "Otherwise L - QB - 1 bits 0, a bit 1, and m - 1 in QB bits": 200 is e = -56, m = 110.
        bodyIs("m 110", 255, 0, new int[][] {{200}}, 0, 0, 1, 109);
    }

    // "behind a byte 255 the next one begins with a bit 0 that is no bit of the code."
    private static void behind255() {
        // 4 columns and 4 rows: nine bits 1.
        bodyIs("nine bits 1", 15, 0, new int[4][4], 255, 0b01000000);
        // 8 columns: 6, 9, 11, 13, 14, 15, 16, 17 bits 1.
        bodyIs("nine bits 1", 15, 0, new int[2][8], 255, 0b01000000);
        bodyIs("fourteen bits 1", 15, 0, new int[5][8], 255, 0b01111110);
        bodyIs("fifteen bits 1", 15, 0, new int[6][8], 255, 0b01111111);
        bodyIs("sixteen bits 1", 15, 0, new int[7][8], 255, 0b01111111, 0b10000000);
        bodyIs("seventeen bits 1", 15, 0, new int[8][8], 255, 0b01111111, 0b11000000);
        // 2 columns: eight bits 1 of six rows; then J is 2: bit 0 and 00, m = 19 with K 2: 0000 1 11; and a regular 10:
        // e = 0, 100. A byte 0 that is all bits of the code but for its first.
        int[][] rows = new int[7][2];
        rows[6][0] = 10;
        rows[6][1] = 10;
        bodyIs("0 behind 255", 255, 0, rows, 255, 0, 0b11110000);
        // A byte with one bit 0 is none of these: six bits 1, J is 1: 0 and 1; then 011, and context 2: 10, 1, ...
        bodyIs("253", 15, 0, new int[][] {{0, 0, 0, 0, 0, 0, 0, 0}, {0, 2, 2, 2, 2, 2, 2, 2}},
            0b11111101, 0b01110111, 0b11000000);
    }

    // The byte behind a byte 255 begins with 0 and is none itself; the one behind that may be 255 again.
    private static void twice255() {
        // 8 columns and 7 rows: sixteen bits 1. Row 7: run index 15, J 3.
        int[][] rows = new int[8][8];
        rows[7][7] = 2;
        // 0 111, then K 1 of MAXVAL 15, m = 3: 011.
        bodyIs("255, 127 and more", 15, 0, rows, 255, 127, 0b10111011);
        // MAXVAL 3: row 0 has ends (e = -2: 0 and 010) and context 2 (011, then 11); from row 1 on all is as foretold:
        // a context has 10 first and then 1 each time, so from row 3 on there are only bits 1, 25 of them.
        int[][] stripes = new int[8][];
        for (int y = 0; y < 8; y++) {
            stripes[y] = new int[] {2, 0, 2, 0, 2};
        }
        bodyIs("twice 255", 3, 0, stripes, 0b00100110, 0b01011001, 0b01010111, 0b01011111, 255, 127, 255, 64);
    }

    // "At the end a byte that has begun is filled up with bits 0".
    private static void filledUp() {
        bodyIs("seven are left", 15, 0, new int[1][1], 0b10000000);
        bodyIs("two are left", 15, 0, new int[1][8], 0b11111100);
        // 7 rows of one column.
        bodyIs("one is left", 15, 0, new int[7][1], 0b11111110);
        // No byte has begun: 0 00011 10 of MAXVAL 15.
        bodyIs("none is left", 15, 0, new int[][] {{4}, {4}}, 0b00001110);
        bodyIs("none is left behind 255", 15, 0, new int[6][8], 255, 0b01111111);
    }

    // "and if the last byte is 255 then, a byte 0 comes behind it."
    private static void endsWith255() {
        bodyIs("eight bits 1", 15, 0, new int[8][1], 255, 0);
        bodyIs("eight bits 1", 15, 0, new int[3][4], 255, 0);
        bodyIs("eight bits 1", 15, 0, new int[6][2], 255, 0);
        // Two stripes: 0 010 011, 10 10, 10 1, then only bits 1, ten of them.
        int[][] stripes = new int[8][];
        for (int y = 0; y < 8; y++) {
            stripes[y] = new int[] {2, 0};
        }
        bodyIs("the third byte", 3, 0, stripes, 0b00100111, 0b01010111, 255, 0);
        bodyIs("not 254", 15, 0, new int[7][1], 254);
        bodyIs("not 127 behind 255", 15, 0, new int[6][8], 255, 127);
    }

    // "THE CODE of a picture: 255, 216, its width, its height, MAXVAL, NEAR, the bytes of all its samples, 255, 217."
    private static void headAndEnd() {
        int[][] heads = {{1, 1, 3, 0}, {1, 1, 3, 1}, {1, 1, 255, 3}, {1, 8, 255, 0}, {8, 1, 6, 3}, {8, 8, 255, 3},
            {8, 8, 254, 2}, {3, 5, 217, 1}, {5, 3, 216, 0}};
        for (int[] head : heads) {
            GradientCoder coder = Face.encoded(head[2], head[3], new int[head[1]][head[0]]);
            int size = coder.size();
            Check.same("byte 0", coder.code(0), 255);
            Check.same("byte 1", coder.code(1), 216);
            for (int i = 0; i < 4; i++) {
                Check.same("byte " + (2 + i), coder.code(2 + i), head[i]);
            }
            Check.same("the last but one", coder.code(size - 2), 255);
            Check.same("the last", coder.code(size - 1), 217);
            Check.same("behind the last", coder.code(size), -1);
            Check.yes("there are bits", size >= 9);
        }
        // MAXVAL 255 in the head is no byte that a bit 0 has to follow: the first byte has all its eight bits.
        bodyIs("behind the head", 255, 0, new int[1][1], 128);
    }
}
