/** Promises 12, 13 and 14: rebuilt, context and runIndex, as the latest coding or reading left them. */
public final class LatestTest {
    // MAXVAL 15: an end and context 4 twice; 36 - 4 and a run of two; a run of three: 1, 1, and one is left of J 1.
    private static final int[][] ROWS = {{9, 9, 9}, {9, 9, 9}, {9, 9, 9}};

    public static void main(String[] args) {
        contextsThatAreThere();
        contextsThatAreNot();
        ofEachContext();
        runIndex();
        ofTheLatestCoding();
        eachBeginsAnew();
        ofTheLatestReading();
        notOfAReadingThatThrows();
        notBehindFrame();
        stayWithTheOthers();
        Check.end();
    }

    // "Of context q: what = 0 A, 1 B, 2 C, 3 N, 4 M": the first, one within, and the last two.
    private static void contextsThatAreThere() {
        GradientCoder coder = Face.encoded(15, 0, new int[][] {{15, 0, 14, 10}});
        // Ends: e = -1 and then -2, m = 0 and 2. Context 4: e = 15 is -1, then e = 14 - 10.
        contextIs(coder, 366, 3, 0, 0, 3, 2);
        contextIs(coder, 4, 7, 0, 1, 3, 0);
        contextIs(coder, 0, 2, 0, 0, 1, 0);
        contextIs(coder, 365, 2, 0, 0, 1, 0);
        contextIs(coder, 364, 2, 0, 0, 1, 0);
    }

    private static void contextIs(GradientCoder coder, int q, int... due) {
        for (int what = 0; what < 5; what++) {
            Check.same("context(" + q + ", " + what + ")", coder.context(q, what), due[what]);
        }
    }

    // "-1000000 when there is none, or what is not 0 .. 4."
    private static void contextsThatAreNot() {
        GradientCoder coder = Face.encoded(15, 0, ROWS);
        int[] odd = {Integer.MIN_VALUE, -1000000, -2, -1, 1 << 16, Integer.MAX_VALUE};
        for (int other : odd) {
            for (int what = 0; what < 5; what++) {
                Check.same("context(" + other + ", " + what + ")", coder.context(other, what), -1000000);
            }
            for (int q : new int[] {0, 4, 365, 366}) {
                Check.same("context(" + q + ", " + other + ")", coder.context(q, other), -1000000);
            }
        }
        for (int what = -1; what <= 5; what++) {
            Check.same("context(-1, " + what + ")", coder.context(-1, what), -1000000);
            Check.same("context(367, " + what + ")", coder.context(367, what), -1000000);
            Check.same("context(368, " + what + ")", coder.context(368, what), -1000000);
        }
        for (int q = 0; q <= 366; q++) {
            Check.same("context(" + q + ", -1)", coder.context(q, -1), -1000000);
            Check.same("context(" + q + ", 5)", coder.context(q, 5), -1000000);
        }
    }

    // The greatest context of a regular sample is 4 * 81 + 4 * 9 + 4 = 364, and there is none that has no number.
    private static void ofEachContext() {
        // The first one of row 3: d - b, b - c and c - a are 4: a is b, so b - c = 4 has c - a = -4; no first one of a
        // row can have it. The second one: a = 0, c = 4, b = 8, d = 12.
        GradientCoder coder = Face.encoded(15, 0, new int[][] {{4, 8, 12}, {0, 8, 8}});
        Check.same("context 364", coder.context(364, 3), 2);
        for (int q = 0; q <= 366; q++) {
            Check.yes("A of " + q, coder.context(q, 0) >= 2);
            Check.yes("N of " + q, coder.context(q, 3) >= 1);
        }
    }

    private static void runIndex() {
        Check.same("a row of 4", Face.encoded(15, 0, new int[1][4]).runIndex(), 4);
        Check.same("64 samples", Face.encoded(15, 0, new int[8][8]).runIndex(), 16);
        Check.same("no run", Face.encoded(15, 0, new int[][] {{9, 8}}).runIndex(), 0);
        Check.same("less by an end", Face.encoded(15, 0, new int[][] {{0, 0, 9}}).runIndex(), 1);
    }

    // What an earlier coding learnt does not count.
    private static void ofTheLatestCoding() {
        GradientCoder coder = Face.encoded(15, 0, ROWS);
        Check.same("used", Face.used(coder), "4x2 32x1 366x1");
        Check.same("run index", coder.runIndex(), 4);
        coder.encode();
        Check.same("used", Face.used(coder), "4x2 32x1 366x1");
        Check.same("run index", coder.runIndex(), 4);
        for (int y = 0; y < 3; y++) {
            Check.yes("row", coder.row(y, 0));
        }
        coder.encode();
        Check.same("used", Face.used(coder), "");
        Check.same("rebuilt", Face.rebuilt(coder), " rebuilt 0 0 0 0 0 0 0 0 0");
        // 1, 1, 1; 1, 2; 2 and one is left.
        Check.same("run index", coder.runIndex(), 6);
    }

    // Each of A, B, C, N and M begins anew with each coding and each reading.
    private static void eachBeginsAnew() {
        // Ends: e = -1, m = 0; e = 2, m = 3; e = -7, m = 12. Context 4: e = 15 - 0 is -1; e = 9 - 13: B = -5, N = 3.
        // Context 2: e = 2 - 1. Context 1: e = 1 - 0.
        GradientCoder coder = Codes.coded("all of them", 15, 0, new int[][] {{15, 0, 2, 1, 0, 9, 13}},
            "0 10 11 0 011 010 010 0 00000010 00011");
        contextIs(coder, 366, 9, 0, 0, 4, 2);
        contextIs(coder, 4, 7, -2, -1, 3, 0);
        contextIs(coder, 2, 3, -1, 1, 2, 0);
        String left = Face.left(coder);
        for (int i = 0; i < 3; i++) {
            coder.encode();
            Check.same("coded again", Face.left(coder), left);
        }
        for (int i = 0; i < 3; i++) {
            Check.same("decode()", Codes.read(coder), 7);
            Check.same("read again", Face.left(coder), left);
        }
        Check.yes("frame", coder.frame(7, 1, 15, 0));
        Check.asAtFirst("behind frame", coder, 2);
        // An even picture uses no context.
        coder.encode();
        Check.same("run index", coder.runIndex(), 5);
        Check.yes("frame", coder.frame(7, 1, 15, 0));
        Check.asAtFirst("behind frame", coder, 2);
    }

    private static void ofTheLatestReading() {
        GradientCoder coder = Codes.holding(3, 1, 15, 0, "0 000011 10 1");
        Check.yes("contexts of the coding before", coder.context(366, 3) != 2 || !Face.used(coder).equals("4x2 366x1"));
        Check.same("decode()", Codes.read(coder), 3);
        Check.same("used", Face.used(coder), "4x2 366x1");
        Check.same("rebuilt", Face.rebuilt(coder), " rebuilt 5 5 5");
        Check.same("run index", coder.runIndex(), 0);
        coder = Codes.holding(2, 2, 15, 0, "11 11");
        Check.same("decode()", Codes.read(coder), 4);
        Check.same("used", Face.used(coder), "");
        Check.same("run index", coder.runIndex(), 4);
        // And of a coding behind it: 3 is another end, m = 5.
        Check.yes("row", coder.row(0, Face.row(0, 3)));
        coder.encode();
        Check.same("rebuilt", Face.rebuilt(coder), " rebuilt 0 3 0 0");
        contextIs(coder, 366, 4, 0, 0, 2, 0);
    }

    private static void notOfAReadingThatThrows() {
        GradientCoder coder = Face.encoded(15, 1, new int[][] {{0, 0, 0, 10}});
        Check.same("rebuilt", Face.rebuilt(coder), " rebuilt 0 0 0 9");
        Check.same("run index", coder.runIndex(), 2);
        int was = coder.code(coder.size() - 1);
        Check.yes("poke", coder.poke(coder.size() - 1, 0));
        Check.yes("row", coder.row(0, Face.row(15, 15, 15, 15)));
        Check.unreadable("the last byte is 0", coder);
        Check.same("rebuilt", Face.rebuilt(coder), " rebuilt 0 0 0 9");
        Check.same("samples", Face.samples(coder), " samples 15 15 15 15");
        Check.same("run index", coder.runIndex(), 2);
        contextIs(coder, 366, 4, 0, 0, 2, 1);
        Check.yes("poke", coder.poke(coder.size() - 1, was));
        Check.same("decode()", Codes.read(coder), 4);
        Check.same("samples", Face.samples(coder), " samples 0 0 0 9");
    }

    // Behind frame nothing is coded.
    private static void notBehindFrame() {
        GradientCoder coder = Face.encoded(15, 0, ROWS);
        Check.yes("frame", coder.frame(3, 3, 255, 0));
        Check.asAtFirst("behind frame", coder, 4);
        Check.same("rebuilt", Face.rebuilt(coder), " rebuilt 0 0 0 0 0 0 0 0 0");
    }

    // Calls that neither code nor read leave them.
    private static void stayWithTheOthers() {
        GradientCoder coder = Face.encoded(200, 3, new int[][] {{0, 0, 100, 7}});
        String left = Face.left(coder);
        coder.row(0, Face.row(1, 2, 3, 4));
        coder.poke(6, 0);
        coder.cut(3);
        coder.cut(0);
        coder.frame(9, 9, 9, 9);
        coder.row(5, 0);
        coder.poke(0, 0);
        coder.cut(-1);
        Check.same("what coding left", Face.left(coder), left);
    }
}
