/** Promise 2: frame. */
public final class FrameTest {
    private static final int LEAST = Integer.MIN_VALUE;
    private static final int MOST = Integer.MAX_VALUE;

    public static void main(String[] args) {
        atTheBounds();
        outOfBounds();
        nearAgainstMaxval();
        allSamplesZero();
        nothingIsCoded();
        Check.end();
    }

    private static GradientCoder used() {
        GradientCoder coder = Face.encoded(200, 1, new int[][] {{9, 100, 20}, {200, 0, 7}});
        // So that samples and rebuilt values are not the same.
        Check.yes("row", coder.row(0, Face.row(1, 2, 3)));
        return coder;
    }

    private static void taken(int width, int height, int maxval, int near) {
        GradientCoder coder = used();
        String call = "frame(" + width + ", " + height + ", " + maxval + ", " + near + ")";
        Check.yes(call, coder.frame(width, height, maxval, near));
        int[] due = {width, height, maxval, near};
        for (int what = 0; what < 4; what++) {
            Check.same(call + ": number(" + what + ")", coder.number(what), due[what]);
        }
        Check.same(call + ": the last sample", coder.sample(width - 1, height - 1), 0);
        Check.same(call + ": behind the last column", coder.sample(width, 0), -1);
        Check.same(call + ": behind the last row", coder.sample(0, height), -1);
    }

    // "False when one is out of its bounds": the picture, what was coded and all else stay.
    private static void refused(int width, int height, int maxval, int near) {
        GradientCoder coder = used();
        Check.refused("frame(" + width + ", " + height + ", " + maxval + ", " + near + ")", coder,
            () -> coder.frame(width, height, maxval, near));
    }

    private static void atTheBounds() {
        taken(1, 5, 100, 0);
        taken(8, 5, 100, 0);
        taken(5, 1, 100, 0);
        taken(5, 8, 100, 0);
        taken(5, 5, 3, 0);
        taken(5, 5, 255, 0);
        taken(5, 5, 100, 0);
        taken(5, 5, 100, 3);
        taken(1, 1, 3, 0);
        taken(8, 8, 255, 3);
    }

    private static void outOfBounds() {
        for (int side : new int[] {LEAST, -1, 0, 9, 10, 256 + 5, MOST}) {
            refused(side, 5, 100, 0);
            refused(5, side, 100, 0);
        }
        for (int maxval : new int[] {LEAST, -1, 0, 1, 2, 256, 257, 65536 + 100, MOST}) {
            refused(5, 5, maxval, 0);
        }
        for (int near : new int[] {LEAST, -2, -1, 4, 5, 256, MOST}) {
            refused(5, 5, 100, near);
        }
        refused(0, 0, 0, -1);
        refused(9, 9, 256, 4);
    }

    // "a NEAR, 0 .. 3 and not more than MAXVAL / 2", rounded down.
    private static void nearAgainstMaxval() {
        taken(2, 2, 3, 1);
        refused(2, 2, 3, 2);
        refused(2, 2, 3, 3);
        taken(2, 2, 4, 2);
        refused(2, 2, 4, 3);
        taken(2, 2, 5, 2);
        refused(2, 2, 5, 3);
        taken(2, 2, 6, 3);
        refused(2, 2, 6, 4);
        taken(2, 2, 7, 3);
        refused(2, 2, 2, 1);
    }

    // "The picture becomes one of these numbers, all samples 0", the same numbers or others.
    private static void allSamplesZero() {
        GradientCoder coder = used();
        Check.yes("frame", coder.frame(3, 2, 200, 1));
        Check.same("samples", Face.samples(coder), " samples 0 0 0 0 0 0");
        coder = Face.framed(255, 0, new int[][] {{9, 9}, {9, 9}});
        Check.yes("frame", coder.frame(8, 8, 255, 0));
        Check.same("samples of a larger one", Face.samples(coder), Face.values(" samples", new int[8][8]));
        Check.same("rebuilt of a larger one", Face.rebuilt(coder), Face.values(" rebuilt", new int[8][8]));
        // What was a sample of a larger picture is not there again when the picture is large once more.
        Check.yes("row", coder.row(7, -1L));
        Check.yes("frame", coder.frame(1, 1, 255, 0));
        Check.yes("frame", coder.frame(8, 8, 255, 0));
        Check.same("large once more", Face.samples(coder), Face.values(" samples", new int[8][8]));
    }

    // "nothing is coded".
    private static void nothingIsCoded() {
        GradientCoder coder = used();
        Check.yes("something is coded", coder.size() > 0);
        Check.yes("frame", coder.frame(3, 2, 200, 1));
        Check.same("rebuilt", Face.rebuilt(coder), " rebuilt 0 0 0 0 0 0");
        Check.same("size()", coder.size(), 0);
        Check.same("code(0)", coder.code(0), -1);
        Check.refused("poke(0, 0)", coder, () -> coder.poke(0, 0));
        Check.refused("cut(1)", coder, () -> coder.cut(1));
        // RANGE is 68.
        Check.asAtFirst("behind frame", coder, 2);
        Check.unreadable("the empty code behind frame", coder);
        GradientCoder even = Face.encoded(9, 0, new int[8][8]);
        Check.same("a run index", even.runIndex(), 16);
        Check.yes("frame", even.frame(8, 8, 9, 0));
        Check.same("run index", even.runIndex(), 0);
        Check.same("as of a new object", Face.all(even), Face.all(Face.framed(9, 0, new int[8][8])));
    }
}
