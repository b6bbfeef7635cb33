/**
 * Terms, coding: what stands for neighbours outside the picture. MAXVAL is 15 and NEAR 0: RANGE 16, T1 .. T3 are
 * 2, 3, 4, A is 2 at first, so K is 1 where a context is used first.
 */
public final class OutsideTest {
    public static void main(String[] args) {
        aboveRowZero();
        rightOfTheLastColumn();
        leftOfColumnZero();
        aboveLeftOfColumnZero();
        aboveLeftOfColumnZeroWithMoreColumns();
        Check.end();
    }

    // "above row 0 all are 0": only c - a is not, so the context is 4 and SIGN -1.
    private static void aboveRowZero() {
        // 5 ends a run of none: bit 0, e = 5, m = 9: 0000 1 1. Then foretold is 5, e = 0; K is 1 and then 0.
        GradientCoder coder = Codes.coded("row 0", 15, 0, new int[][] {{5, 5, 5}}, "0 000011 10 1");
        Check.same("used", Face.used(coder), "4x2 366x1");
    }

    // "d of the last column is b".
    private static void rightOfTheLastColumn() {
        // Row 1, column 0: a = b = c = 0, d = 5: context 4 * 81. Column 1: a = c = 0, b = 5: with d = 5 it is 4 * 9.
        GradientCoder coder = Codes.coded("the last column", 15, 0, new int[][] {{0, 5}, {0, 5}},
            "1 0 000011 10 10");
        Check.same("used", Face.used(coder), "36x1 324x1 366x1");
        // The only column is the last one too: with d = b = a = 4 and c = 4 a run begins in row 2.
        coder = Codes.coded("the only column", 15, 0, new int[][] {{4}, {4}, {4}}, "0 00011 10 1");
        Check.same("used", Face.used(coder), "32x1 366x1");
    }

    // "a of column 0 is b".
    private static void leftOfColumnZero() {
        // Row 1: b = d = 5, c = 0: b - c is 4, and c - a is -4 as a is 5: context 36 - 4, foretold 5, e = 2, m = 4.
        GradientCoder coder = Codes.coded("column 0", 15, 0, new int[][] {{5}, {7}}, "0 000011 0010");
        Check.same("used", Face.used(coder), "32x1 366x1");
        Check.same("A", coder.context(32, 0), 4);
    }

    // "c of column 0 is the a that column 0 had in the row above (0 in row 0)".
    private static void aboveLeftOfColumnZero() {
        // The a's of column 0 are 0, 4, 9, 9. Row 1: c is 0; row 2: a = b = 9, c is 4: context 36 - 4 both times.
        // Row 1: foretold 4, e = 5, m = 10: 00000 1 0: A = 7, C = 1. Row 2: foretold 10, e = -1, A is 7, N 2, K 2:
        // m = 1: 1 01; A = 8, B = -1. Row 3: c is 9: a run of one.
        GradientCoder coder = Codes.coded("c of column 0", 15, 0, new int[][] {{4}, {9}, {9}, {9}},
            "0 00011 0000010 101 1");
        Check.same("used", Face.used(coder), "32x2 366x1");
        Check.same("run index", coder.runIndex(), 1);
    }

    private static void aboveLeftOfColumnZeroWithMoreColumns() {
        // Row 0: 4 ends a run of none; 9: context 4, foretold 4, e = -5, m = 9.
        // Row 1: a = b = 4, c = 0, d = 9: 324 + 36 - 4, e = 0; then a = c = 4, b = 9: 36, foretold 9, e = 0.
        // Row 2: a = b = c = 4, d = 9: 324, foretold 4, e = 2, m = 4; then a = 6, b = 9, c = 4: 36 - 2, foretold 9,
        // e = -3, m = 5.
        GradientCoder coder = Codes.coded("two columns", 15, 0, new int[][] {{4, 9}, {4, 9}, {6, 6}},
            "0 00011 000011 10 10 0010 0011");
        Check.same("used", Face.used(coder), "4x1 34x1 36x1 324x1 356x1 366x1");
    }
}
