/** Promise 3: row. */
public final class RowTest {
    public static void main(String[] args) {
        highestBytes();
        noSuchRow();
        aboveMaxval();
        behindTheWidth();
        nothingElse();
        Check.end();
    }

    // "The samples of row y become the highest bytes of a long, the highest first."
    private static void highestBytes() {
        int[] bytes = {0x81, 0x02, 0xff, 0x00, 0x7f, 0x80, 0x2a, 0xfe};
        for (int width = 1; width <= 8; width++) {
            GradientCoder coder = new GradientCoder();
            coder.frame(width, 3, 255, 0);
            Check.yes("row(1)", coder.row(1, 0x8102ff007f802afeL));
            for (int x = 0; x < width; x++) {
                Check.same("width " + width + ": sample(" + x + ", 1)", coder.sample(x, 1), bytes[x]);
                Check.same("width " + width + ": sample(" + x + ", 0)", coder.sample(x, 0), 0);
                Check.same("width " + width + ": sample(" + x + ", 2)", coder.sample(x, 2), 0);
            }
            Check.yes("row(1) once more", coder.row(1, 0));
            Check.same("samples", Face.samples(coder), Face.values(" samples", new int[3][width]));
        }
    }

    // "False when there is no such row".
    private static void noSuchRow() {
        for (int height = 1; height <= 8; height++) {
            GradientCoder coder = new GradientCoder();
            coder.frame(2, height, 100, 0);
            Check.yes("the first row", coder.row(0, Face.row(1, 2)));
            Check.yes("the last row", coder.row(height - 1, Face.row(3, 4)));
            coder.encode();
            int[] none = {-1, height, height + 1, 8, 256, Integer.MIN_VALUE, Integer.MAX_VALUE};
            for (int y : none) {
                Check.refused("height " + height + ": row(" + y + ")", coder, () -> coder.row(y, Face.row(9, 9)));
            }
        }
    }

    // "or one of those bytes is above MAXVAL": each of them, and no sample of the row changes.
    private static void aboveMaxval() {
        for (int maxval : new int[] {3, 100, 127, 128, 254}) {
            for (int width = 1; width <= 8; width++) {
                GradientCoder coder = new GradientCoder();
                coder.frame(width, 2, maxval, 0);
                Check.yes("MAXVAL", coder.row(1, same(maxval)));
                coder.encode();
                for (int x = 0; x < width; x++) {
                    long others = same(1) & ~byteAt(255, x);
                    long justAbove = others | byteAt(maxval + 1, x);
                    long most = others | byteAt(255, x);
                    Check.refused("MAXVAL + 1", coder, () -> coder.row(1, justAbove));
                    Check.refused("255", coder, () -> coder.row(0, most));
                }
            }
        }
        GradientCoder coder = new GradientCoder();
        coder.frame(8, 1, 255, 0);
        Check.yes("255 is not above 255", coder.row(0, -1L));
    }

    // "those bytes" are the samples' own: one behind the width may be above MAXVAL.
    private static void behindTheWidth() {
        for (int width = 1; width <= 7; width++) {
            GradientCoder coder = new GradientCoder();
            coder.frame(width, 1, 3, 0);
            for (int x = width; x < 8; x++) {
                Check.yes("width " + width + ": 4 behind it", coder.row(0, byteAt(4, x) | byteAt(2, 0)));
                Check.yes("width " + width + ": 255 behind it", coder.row(0, byteAt(255, x) | byteAt(2, 0)));
            }
            Check.same("sample(0, 0)", coder.sample(0, 0), 2);
            // Nor do they show when the picture is a wider one.
            Check.yes("all behind it", coder.row(0, -1L >>> 8 * width));
            coder.frame(8, 1, 3, 0);
            Check.same("samples", Face.samples(coder), " samples 0 0 0 0 0 0 0 0");
        }
    }

    // What is coded, rebuilt and learnt stays until the next coding or reading.
    private static void nothingElse() {
        GradientCoder coder = Face.encoded(100, 1, new int[][] {{1, 50, 3}, {4, 5, 96}});
        String code = Face.code(coder);
        String left = Face.left(coder);
        Check.yes("row", coder.row(0, Face.row(100, 0, 100)));
        Check.same("samples", Face.samples(coder), " samples 100 0 100 4 5 96");
        Check.same("the code stays", Face.code(coder), code);
        Check.same("what coding left stays", Face.left(coder), left);
    }

    private static long byteAt(int value, int x) {
        return (long) value << (56 - 8 * x);
    }

    private static long same(int value) {
        return Face.row(value, value, value, value, value, value, value, value);
    }
}
