/** Promises 1, 2, 3, 10 and 11: a new object, frame, row, number, sample. */
public final class PictureTest {
    private static final int[] ODD = {Integer.MIN_VALUE, -1, Integer.MAX_VALUE};

    public static void main(String[] args) {
        newObject();
        frameBounds();
        frameBeginsAnew();
        rows();
        rowsOutOfBounds();
        numbers();
        numbersOutOfBounds();
        places();
        Check.end();
    }

    private static void newObject() {
        GradientCoder coder = new GradientCoder();
        Check.same("new numbers", Face.numbers(coder), "numbers 1 1 255 0 256 8 32 3 7 21");
        Check.same("new size", coder.size(), 0);
        Check.same("new code(0)", coder.code(0), -1);
        Check.same("new sample", coder.sample(0, 0), 0);
        Check.same("new rebuilt", coder.rebuilt(0, 0), 0);
        Check.same("new run index", coder.runIndex(), 0);
        contextsAsAtFirst(coder, 4);
        Check.unreadable("the empty code", coder);
    }

    private static void contextsAsAtFirst(GradientCoder coder, int a) {
        for (int q = 0; q < 367; q++) {
            Check.same("first A of " + q, coder.context(q, 0), a);
            Check.same("first B of " + q, coder.context(q, 1), 0);
            Check.same("first C of " + q, coder.context(q, 2), 0);
            Check.same("first N of " + q, coder.context(q, 3), 1);
            Check.same("first M of " + q, coder.context(q, 4), 0);
        }
    }

    private static GradientCoder used() {
        GradientCoder coder = Face.framed(200, 1, new int[][] {{9, 100, 20}, {200, 0, 7}});
        coder.encode();
        return coder;
    }

    private static void frameBounds() {
        GradientCoder coder = used();
        int[][] bad = {
            {0, 1, 255, 0}, {9, 1, 255, 0}, {1, 0, 255, 0}, {1, 9, 255, 0}, {1, 1, 2, 0}, {1, 1, 256, 0},
            {1, 1, 255, 4}, {1, 1, 255, -1}, {1, 1, 3, 2}, {1, 1, 4, 3}, {1, 1, 5, 3}, {-1, 1, 255, 0},
            {1, -1, 255, 0}, {1, 1, -1, 0}, {Integer.MAX_VALUE, 1, 255, 0}, {1, Integer.MIN_VALUE, 255, 0},
            {1, 1, Integer.MAX_VALUE, 0}, {1, 1, 255, Integer.MIN_VALUE}
        };
        for (int[] f : bad) {
            String call = "frame(" + f[0] + ", " + f[1] + ", " + f[2] + ", " + f[3] + ")";
            Check.refused(call, coder, () -> coder.frame(f[0], f[1], f[2], f[3]));
        }
        int[][] good = {
            {1, 1, 3, 0}, {8, 8, 255, 3}, {8, 1, 3, 1}, {1, 8, 4, 2}, {2, 2, 5, 2}, {3, 3, 6, 3}
        };
        for (int[] f : good) {
            Check.yes("frame(" + f[0] + ", " + f[1] + ", " + f[2] + ", " + f[3] + ")",
                coder.frame(f[0], f[1], f[2], f[3]));
            for (int what = 0; what < 4; what++) {
                Check.same("number(" + what + ")", coder.number(what), f[what]);
            }
        }
    }

    private static void frameBeginsAnew() {
        GradientCoder coder = used();
        Check.yes("something is coded", coder.size() > 0);
        Check.yes("frame", coder.frame(3, 2, 200, 1));
        Check.same("samples", Face.samples(coder), " samples 0 0 0 0 0 0");
        Check.same("rebuilt", Face.rebuilt(coder), " rebuilt 0 0 0 0 0 0");
        Check.same("size", coder.size(), 0);
        Check.same("run index", coder.runIndex(), 0);
        // RANGE is (200 + 2) / 3 + 1 = 68, and (68 + 32) / 64 = 1, so A is 2.
        contextsAsAtFirst(coder, 2);
        Check.yes("frame", coder.frame(1, 1, 223, 0));
        contextsAsAtFirst(coder, 4);
        Check.yes("frame", coder.frame(1, 1, 222, 0));
        contextsAsAtFirst(coder, 3);
        Check.yes("frame", coder.frame(8, 8, 9, 0));
        Check.same("a run index of an even picture", runIndexOf(coder), 16);
        Check.yes("frame", coder.frame(8, 8, 9, 0));
        Check.same("run index", coder.runIndex(), 0);
    }

    private static int runIndexOf(GradientCoder coder) {
        coder.encode();
        return coder.runIndex();
    }

    private static void rows() {
        GradientCoder coder = new GradientCoder();
        coder.frame(8, 2, 255, 0);
        Check.yes("row of eight", coder.row(1, 0x01807fff00c82a09L));
        Check.same("samples", Face.samples(coder),
            " samples 0 0 0 0 0 0 0 0 1 128 127 255 0 200 42 9");
        coder.frame(3, 2, 100, 0);
        Check.yes("what is behind the width is not looked at", coder.row(0, 0x640001ffffffffffL));
        Check.same("samples", Face.samples(coder), " samples 100 0 1 0 0 0");
        coder.encode();
        String code = Face.code(coder);
        String rebuilt = Face.rebuilt(coder);
        Check.yes("row over a row", coder.row(0, 0x0203040000000000L));
        Check.same("samples", Face.samples(coder), " samples 2 3 4 0 0 0");
        Check.same("the code stays", Face.code(coder), code);
        Check.same("the rebuilt values stay", Face.rebuilt(coder), rebuilt);
    }

    private static void rowsOutOfBounds() {
        GradientCoder coder = Face.framed(100, 0, new int[][] {{1, 2, 3}, {4, 5, 6}});
        for (int y : new int[] {-1, 2, 3, 8, Integer.MIN_VALUE, Integer.MAX_VALUE}) {
            Check.refused("row(" + y + ")", coder, () -> coder.row(y, 0));
        }
        Check.refused("101 as the first", coder, () -> coder.row(0, Face.row(101, 0, 0)));
        Check.refused("101 as the last", coder, () -> coder.row(1, Face.row(7, 8, 101)));
        Check.refused("255", coder, () -> coder.row(1, -1L));
        Check.yes("100", coder.row(1, Face.row(100, 100, 100)));
    }

    private static void numbers() {
        numbersAre(255, 0, "256 8 32 3 7 21");
        numbersAre(255, 3, "38 6 32 12 22 42");
        numbersAre(128, 0, "129 8 32 3 7 21");
        numbersAre(128, 3, "20 5 32 12 22 42");
        numbersAre(127, 0, "128 7 30 2 3 10");
        // F is 4: 3 / 4 + 6, 7 / 4 + 10, 21 / 4 + 14.
        numbersAre(63, 2, "14 4 28 6 11 19");
        // F is 16: all from NEAR but for 21 / 16.
        numbersAre(15, 1, "6 3 24 3 5 8");
        numbersAre(15, 0, "16 4 24 2 3 4");
        // T1 is 9; 15 and 21 are more than MAXVAL, so T2 and T3 are what stands before them.
        numbersAre(10, 3, "3 2 24 9 9 9");
        numbersAre(6, 3, "2 1 22 4 4 4");
        numbersAre(4, 2, "2 1 22 3 3 3");
        numbersAre(3, 0, "4 2 20 2 3 3");
        numbersAre(3, 1, "2 1 20 3 3 3");
    }

    private static void numbersAre(int maxval, int near, String due) {
        GradientCoder coder = new GradientCoder();
        Check.yes("frame", coder.frame(2, 3, maxval, near));
        Check.same("numbers of " + maxval + ", " + near, Face.numbers(coder),
            "numbers 2 3 " + maxval + " " + near + " " + due);
    }

    private static void numbersOutOfBounds() {
        GradientCoder coder = new GradientCoder();
        for (int what : ODD) {
            Check.same("number(" + what + ")", coder.number(what), -1);
        }
        Check.same("number(10)", coder.number(10), -1);
    }

    private static void places() {
        GradientCoder coder = Face.framed(255, 0, new int[][] {{1, 2, 3}, {4, 5, 6}});
        coder.encode();
        Check.same("sample(2, 1)", coder.sample(2, 1), 6);
        Check.same("sample(1, 0)", coder.sample(1, 0), 2);
        Check.same("sample(3, 0)", coder.sample(3, 0), -1);
        Check.same("sample(0, 2)", coder.sample(0, 2), -1);
        Check.same("rebuilt(2, 1)", coder.rebuilt(2, 1), 6);
        Check.same("rebuilt(3, 0)", coder.rebuilt(3, 0), -1);
        Check.same("rebuilt(0, 2)", coder.rebuilt(0, 2), -1);
        for (int odd : ODD) {
            Check.same("sample(" + odd + ", 0)", coder.sample(odd, 0), -1);
            Check.same("sample(0, " + odd + ")", coder.sample(0, odd), -1);
            Check.same("rebuilt(" + odd + ", 0)", coder.rebuilt(odd, 0), -1);
            Check.same("rebuilt(0, " + odd + ")", coder.rebuilt(0, odd), -1);
        }
    }
}
