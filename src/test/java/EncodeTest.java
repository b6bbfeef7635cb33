/** Promise 4: encode. What the bits are, part by part, is in the tests of the terms. */
public final class EncodeTest {
    public static void main(String[] args) {
        knownPicture();
        smallest();
        smallestWithNear();
        largestEven();
        largestOfMaxval();
        greatestErrors();
        answersTheSize();
        leavesThePicture();
        writesAnew();
        Check.end();
    }

    // The example that the standard of this way of coding (ITU-T T.87, annex H.3) works out by hand.
    private static void knownPicture() {
        int[][] samples = {{0, 0, 90, 74}, {68, 50, 43, 205}, {64, 145, 145, 145}, {100, 145, 145, 145}};
        GradientCoder coder = Face.framed(255, 0, samples);
        Check.same("T.87: encode()", coder.encode(), 38);
        Check.same("T.87: code", Face.code(coder), "255 216 4 4 255 0 192 0 0 108 128 32 142 1 192 0 0 87 64 0 0 110 230"
            + " 0 0 1 188 24 0 0 5 216 0 0 145 96 255 217");
        Check.same("T.87: rebuilt", Face.rebuilt(coder), Face.values(" rebuilt", samples));
    }

    // One sample, the least MAXVAL: RANGE 4; 2 is e = -2, 3 is e = -1.
    private static void smallest() {
        Codes.coded("0", 3, 0, new int[][] {{0}}, "1");
        Codes.coded("1", 3, 0, new int[][] {{1}}, "0 11");
        Codes.coded("2", 3, 0, new int[][] {{2}}, "0 010");
        Codes.coded("3", 3, 0, new int[][] {{3}}, "0 10");
        Check.same("encode()", new GradientCoder().encode(), 9);
    }

    // RANGE 2: 2 and 3 are e = 1, and that is -1.
    private static void smallestWithNear() {
        String[] bits = {"1", "1", "0 10", "0 10"};
        int[] rebuilt = {0, 0, 3, 3};
        for (int x = 0; x <= 3; x++) {
            GradientCoder coder = Codes.coded("NEAR 1, " + x, 3, 1, new int[][] {{x}}, bits[x]);
            Check.same("rebuilt of " + x, coder.rebuilt(0, 0), rebuilt[x]);
            Check.same("sample of " + x, coder.sample(0, 0), x);
        }
    }

    private static void largestEven() {
        for (int near = 0; near <= 3; near++) {
            GradientCoder coder = Codes.coded("even", 255, near, new int[8][8], "11111111 11111111 1");
            Check.same("run index", coder.runIndex(), 16);
        }
    }

    // 255: e = -1, K 2, m = 0. Row 0: context 4, e = 0, A 4. Row 1: 36 - 4, then a run of seven. Rows 2 ..: from the
    // run index 5 on: 2, 2, 2 and 2 left; 4, 4; 4, 4; then 8 each.
    private static void largestOfMaxval() {
        int[][] samples = new int[8][8];
        for (int[] row : samples) {
            java.util.Arrays.fill(row, 255);
        }
        GradientCoder coder = Codes.coded("all 255", 255, 0, samples,
            "0 100 100 10 10 1 1 1 1  100 1111 1 1  111 1  11  11  1 1 1");
        Check.same("run index", coder.runIndex(), 15);
        Check.same("used", Face.used(coder), "4x7 32x1 366x1");
    }

    // Pictures whose every sample is as far as can be from the one beside it; they are read back as they were.
    private static void greatestErrors() {
        for (int high : new int[] {127, 128, 129, 255}) {
            for (int near = 0; near <= 3; near++) {
                int[][] samples = new int[8][8];
                for (int y = 0; y < 8; y++) {
                    for (int x = 0; x < 8; x++) {
                        samples[y][x] = (x + y) % 2 * high;
                    }
                }
                GradientCoder coder = Face.framed(255, near, samples);
                int size = coder.encode();
                String left = Face.left(coder);
                Check.yes("the code has all its bytes", size <= 8 + 64 * 5 && coder.code(size - 1) == 217);
                Check.same("decode()", Codes.read(coder), 64);
                Check.same("what is left", Face.left(coder), left);
                withinNear(coder, samples, near);
            }
        }
        // One row: the end of 255 is e = -1; then e = 255 is -1, and all is small: "greatest" is 128.
        Codes.coded("255, 0", 255, 0, new int[][] {{255, 0}}, "0 100 101");
        Codes.coded("128, 0", 255, 0, new int[][] {{128, 0}},
            "0" + Codes.limited(22, 253, 8) + Codes.limited(23, 254, 8));
    }

    private static void withinNear(GradientCoder coder, int[][] samples, int near) {
        for (int y = 0; y < samples.length; y++) {
            for (int x = 0; x < samples[y].length; x++) {
                Check.yes("within NEAR", Math.abs(coder.sample(x, y) - samples[y][x]) <= near);
            }
        }
    }

    // "how many bytes the code has".
    private static void answersTheSize() {
        for (int width = 1; width <= 8; width++) {
            GradientCoder coder = new GradientCoder();
            coder.frame(width, 2, 255, 0);
            coder.row(1, 0x80ff00017f40c0a5L);
            int size = coder.encode();
            Check.same("size()", coder.size(), size);
            Check.same("the last byte", coder.code(size - 1), 217);
            Check.same("none behind it", coder.code(size), -1);
        }
    }

    private static void leavesThePicture() {
        int[][] samples = {{3, 50, 99}, {98, 51, 2}};
        GradientCoder coder = Face.framed(100, 3, samples);
        String numbers = Face.numbers(coder);
        coder.encode();
        Check.same("samples", Face.samples(coder), Face.values(" samples", samples));
        Check.same("numbers", Face.numbers(coder), numbers);
    }

    // Nothing of an earlier coding, code or reading shows.
    private static void writesAnew() {
        int[][] samples = {{12, 200, 13}, {99, 99, 99}, {1, 2, 250}};
        GradientCoder coder = Face.encoded(255, 2, samples);
        String first = Face.all(coder);
        coder.encode();
        Check.same("coded again", Face.all(coder), first);
        coder.cut(4);
        coder.encode();
        Check.same("behind a cut", Face.all(coder), first);
        for (int i = 0; i < coder.size(); i++) {
            coder.poke(i, 255);
        }
        coder.encode();
        Check.same("behind pokes", Face.all(coder), first);
        coder.cut(7);
        Check.same("decode() throws", Codes.read(coder), -1);
        coder.encode();
        Check.same("behind a reading that throws", Face.all(coder), first);
        coder.frame(2, 2, 77, 0);
        coder.encode();
        coder.frame(3, 3, 255, 2);
        Face.fill(coder, samples);
        coder.encode();
        Check.same("behind another picture", Face.all(coder), first);
        // A shorter code behind a longer one.
        coder.frame(1, 1, 255, 2);
        Check.same("encode() of less", coder.encode(), 9);
        Check.same("code of less", Face.code(coder), "255 216 1 1 255 2 128 255 217");
    }
}
