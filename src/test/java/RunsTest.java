/** Terms, coding: runs. Where nothing else is said MAXVAL is 15 and NEAR 0: A is 2 at first. */
public final class RunsTest {
    public static void main(String[] args) {
        beginsIfAllThreeAreZero();
        doesNotBeginIfOneIsNot();
        beginsUpToNear();
        beginsWithAllThreeAtNear();
        doesNotBeginBeyondNear();
        samplesUpToNear();
        rebuiltAsA();
        endsWithTheRow();
        toTheEndOfTheRowAtMost();
        endsBeforeTheRow();
        ofNoSamples();
        longOnes();
        runIndexGoesOn();
        Check.end();
    }

    private static GradientCoder usedAre(String what, int maxval, int near, int[][] samples, String used) {
        GradientCoder coder = Face.encoded(maxval, near, samples);
        // These pictures are made so that no tolerance shows, for then their neighbours can be read off them.
        Check.same(what + ": rebuilt", Face.rebuilt(coder), Face.values(" rebuilt", samples));
        Check.same(what + ": used", Face.used(coder), used);
        return coder;
    }

    // "If b - d, c - b and a - c are all from -NEAR to NEAR, a RUN begins".
    private static void beginsIfAllThreeAreZero() {
        GradientCoder coder = usedAre("all 0", 15, 0, new int[3][2], "");
        Check.same("run index", coder.runIndex(), 5);
        // Row 0: an end, and context 1 of a = 1. Row 1: 9 - 1 of c = 0, then a run of one; row 2: one of two.
        coder = usedAre("all 1", 15, 0, new int[][] {{1, 1}, {1, 1}, {1, 1}}, "1x1 8x1 366x1");
        Check.same("run index", coder.runIndex(), 3);
    }

    // Each of the three, 1 more and 1 less than 0; context 0 would be a regular sample in even surroundings.
    private static void doesNotBeginIfOneIsNot() {
        usedAre("b - d and c - b are -1", 15, 0, new int[][] {{0, 1}, {0, 1}}, "9x1 81x1 366x1");
        usedAre("b - d is 1", 15, 0, new int[][] {{1, 1}, {1, 0}, {1, 1}}, "1x1 8x1 9x1 81x1 366x2");
        usedAre("c - b is 1", 15, 0, new int[][] {{1, 0}, {1, 0}}, "1x1 9x1 73x1 366x1");
        usedAre("a - c is 1", 15, 0, new int[][] {{0, 0}, {1, 1}}, "1x1 366x1");
        usedAre("a - c is -1", 15, 0, new int[][] {{1, 1}, {0, 0}}, "1x2 8x1 366x1");
    }

    // MAXVAL 5 and NEAR 1: STEP 3, T1 .. T3 are 3, 5, 5. 5 is rebuilt as 5, as 6 is above MAXVAL, so that from it 2
    // can be had, and differences of 1 and 2.
    private static void beginsUpToNear() {
        // The place is the first of the last row: its b and d are the row above, its a is b, its c is 3, 2.
        usedAre("b - d is NEAR", 5, 1, new int[][] {{3, 5}, {3, 2}, {3, 0}}, "2x1 9x1 97x1 366x2");
        usedAre("b - d is -NEAR", 5, 1, new int[][] {{5, 5}, {2, 0}, {2, 3}, {5, 2}},
            "2x2 4x1 9x1 32x1 97x1 366x2");
        // The place is the last one: c and b are above it, a is to the left.
        usedAre("c - b is NEAR", 5, 1, new int[][] {{0, 5}, {3, 2}, {3, 3}}, "16x1 34x1 324x1 366x1");
        usedAre("c - b is -NEAR", 5, 1, new int[][] {{5, 0}, {2, 3}, {2, 0}}, "4x1 16x1 34x1 292x1 366x2");
        usedAre("a - c is NEAR", 5, 1, new int[][] {{5, 2, 5, 1, 4}}, "1x1 4x2 366x2");
        usedAre("a - c is -NEAR", 5, 1, new int[][] {{3, 3, 3}, {5, 2, 2}}, "1x1 2x2 16x1 366x1");
    }

    // Neighbours that are further from one another than NEAR, but each within NEAR of the next; the place is the second
    // one of the last row, and 3, 8 and 3 end its run.
    private static void beginsWithAllThreeAtNear() {
        usedAre("a, c, b, d are 6, 6, 5, 4", 8, 1, new int[][] {{3, 8, 8}, {6, 5, 4}, {6, 3, 6}},
            "1x1 2x2 4x1 16x1 25x1 259x1 366x2");
        usedAre("a, c, b, d are 4, 5, 6, 7", 8, 1, new int[][] {{3, 3, 0}, {8, 0, 7}, {5, 6, 7}, {4, 8, 0}},
            "1x1 2x2 16x3 33x1 165x1 290x1 300x1 365x1 366x1");
        usedAre("a, c, b, d are 5, 4, 3, 2", 5, 1, new int[][] {{3, 3, 0}, {0, 0, 1}, {4, 3, 2}, {5, 3, 5}},
            "2x4 16x4 160x1 365x1 366x2");
    }

    // The same places with one more: contexts 81, 9 and 1.
    private static void doesNotBeginBeyondNear() {
        usedAre("b - d is NEAR + 1", 5, 1, new int[][] {{5, 0}, {5, 3}, {5, 5}},
            "4x1 9x1 36x1 81x1 292x1 366x1");
        usedAre("b - d is -NEAR - 1", 5, 1, new int[][] {{3, 3}, {3, 5}, {0, 0}}, "2x1 11x1 16x1 81x1 366x2");
        usedAre("c - b is NEAR + 1", 5, 1, new int[][] {{5, 0}, {2, 0}, {2, 0}},
            "4x1 9x1 34x1 97x1 292x1 366x1");
        usedAre("c - b is -NEAR - 1", 5, 1, new int[][] {{3, 5}, {3, 0}}, "2x1 9x1 97x1 366x1");
        usedAre("a - c is NEAR + 1", 5, 1, new int[][] {{5, 2, 0}}, "1x1 4x1 366x1");
        usedAre("a - c is -NEAR - 1", 5, 1, new int[][] {{5, 2}, {2, 2}, {0, 0}},
            "1x1 4x1 16x2 130x1 366x1");
    }

    // "so many samples ... as are from a - NEAR to a + NEAR". MAXVAL 200, NEAR 3: RANGE 30, A 2, T1 12, T2 22.
    private static void samplesUpToNear() {
        // 14 ends a run of none: e = 2, m = 3. Then b - c is 14, c - a is -14: context 18 - 2, e = 0. In row 2 all
        // neighbours are 14.
        String before = "0 011 10 ";
        for (int x = 11; x <= 17; x++) {
            GradientCoder coder = Codes.coded("within a", 200, 3, new int[][] {{14}, {14}, {x}}, before + "1");
            Check.same("rebuilt", coder.rebuilt(0, 2), 14);
            Check.same("run index", coder.runIndex(), 1);
        }
        // Context 366 has A = 3 and N = 2 now, so K is 1. e = -1: FLIP 1, m = 0. e = 1: m = 1.
        GradientCoder coder = Codes.coded("below a - NEAR", 200, 3, new int[][] {{14}, {14}, {10}}, before + "0 10");
        Check.same("rebuilt", coder.rebuilt(0, 2), 7);
        coder = Codes.coded("above a + NEAR", 200, 3, new int[][] {{14}, {14}, {18}}, before + "0 11");
        Check.same("rebuilt", coder.rebuilt(0, 2), 21);
        Check.same("run index", coder.runIndex(), 0);
    }

    // "each is rebuilt as a": all of a run go by the same a, not by the sample before.
    private static void rebuiltAsA() {
        GradientCoder coder = Codes.coded("even within NEAR", 200, 3, new int[][] {{3, 0, 2, 1}, {0, 3, 3, 3}},
            "1111 11");
        Check.same("rebuilt", Face.rebuilt(coder), " rebuilt 0 0 0 0 0 0 0 0");
        // 2 and 3 are within NEAR of one another, but 4 is not within NEAR of 0: e = 1, m = 1.
        coder = Codes.coded("slowly up", 200, 3, new int[][] {{1, 2, 3, 4}}, "111 0 11");
        Check.same("rebuilt", Face.rebuilt(coder), " rebuilt 0 0 0 7");
    }

    // "As long as 2^J are left of that number, a bit 1 is written ... Then, if the run ended at the end of the row: a
    // bit 1, if any are left."
    private static void endsWithTheRow() {
        String[] bits = {"1", "11", "111", "1111", "1111 1", "1111 1", "1111 1 1", "1111 1 1"};
        int[] index = {1, 2, 3, 4, 4, 5, 5, 6};
        for (int width = 1; width <= 8; width++) {
            GradientCoder coder = Codes.coded("a row of " + width, 15, 0, new int[1][width], bits[width - 1]);
            Check.same("run index of " + width, coder.runIndex(), index[width - 1]);
            Check.same("used of " + width, Face.used(coder), "");
        }
    }

    // "from this one on and to the end of the row at most": the next row goes on with the same samples.
    private static void toTheEndOfTheRowAtMost() {
        // Row 0: 2 ends a run of none, m = 3; 0: context 2, foretold 2, e = 2, m = 4; then a run to the end. Row 1: 0:
        // context 162 - 18 + 2, foretold 2, e = 2, m = 4; 0: context 18 - 2, e = 0; then a run to the end.
        String[] runs = {"1 / 1", "11 / 11", "111 / 1 1", "1111 / 11", "1111 1 / 11 1", "1111 1 / 111"};
        int[] index = {2, 4, 5, 6, 6, 8};
        for (int width = 3; width <= 8; width++) {
            int[][] samples = new int[2][width];
            samples[0][0] = 2;
            String[] rows = runs[width - 3].split("/");
            GradientCoder coder = Codes.coded("to the end of " + width, 15, 0, samples,
                "0 011 0010" + rows[0] + "0010 10" + rows[1]);
            Check.same("run index of " + width, coder.runIndex(), index[width - 3]);
        }
    }

    // "Otherwise a bit 0, then what is left in J bits, then the next sample, which ENDS the run, and the run index is
    // 1 less, if it is above 0."
    private static void endsBeforeTheRow() {
        String[] bits = {"0", "1 0", "11 0", "111 0", "1111 0 0", "1111 0 1", "1111 1 0 0", "1111 1 0 1"};
        int[] index = {0, 0, 1, 2, 3, 3, 4, 4};
        for (int length = 0; length <= 7; length++) {
            int[][] samples = new int[1][length + 1];
            samples[0][length] = 2;
            // e = 2, K 1, m = 3.
            GradientCoder coder = Codes.coded("a run of " + length, 15, 0, samples, bits[length] + " 011");
            Check.same("run index behind " + length, coder.runIndex(), index[length]);
            Check.same("used behind " + length, Face.used(coder), "366x1");
        }
    }

    // "(A run may have no samples.)": in each row here, and the run index stays 0.
    private static void ofNoSamples() {
        // 1 ends a run of none: m = 1. 0 behind it: context 1, foretold 1, e = 1, m = 2: C = 1, A = 3. 1 ends the next
        // run of none: N is 2, A + 1 is 3: K 1, m = 1. 0: foretold 0, e = 0, K 1.
        GradientCoder coder = Codes.coded("runs of none", 15, 0, new int[][] {{1, 0, 1, 0}},
            "0 11 010 0 11 10");
        Check.same("used", Face.used(coder), "1x2 366x2");
        Check.same("run index", coder.runIndex(), 0);
    }

    // J 2 and 3: an even picture of eight columns has the run index 6, 9, 11, 12, 13, 14, 15, 16 behind its rows.
    private static void longOnes() {
        String[] rows = {"111111", "111", "11", "11", "1", "1", "1", "1"};
        int[] index = {6, 9, 11, 12, 13, 14, 15, 16};
        String bits = "";
        for (int height = 1; height <= 8; height++) {
            bits += rows[height - 1];
            GradientCoder coder = Codes.coded("even rows " + height, 15, 0, new int[height][8], bits);
            Check.same("run index of even rows " + height, coder.runIndex(), index[height - 1]);
        }
        // Row 2 (run index 9, J 2) with each length.
        endsInRow(2, 0, "0 00", 8);
        endsInRow(2, 3, "0 11", 8);
        endsInRow(2, 4, "1 0 00", 9);
        endsInRow(2, 7, "1 0 11", 9);
        // Row 3 (run index 11, J 2, and 3 behind one bit 1).
        endsInRow(3, 3, "0 11", 10);
        endsInRow(3, 4, "1 0 000", 11);
        endsInRow(3, 7, "1 0 011", 11);
        // Rows 4 and 7 (run index 12 and 15, J 3).
        endsInRow(4, 0, "0 000", 11);
        endsInRow(4, 7, "0 111", 11);
        endsInRow(7, 7, "0 111", 14);
    }

    private static void endsInRow(int y, int length, String run, int index) {
        String[] rows = {"111111", "111", "11", "11", "1", "1", "1"};
        String bits = "";
        for (int i = 0; i < y; i++) {
            bits += rows[i];
        }
        int[][] samples = new int[y + 1][8];
        for (int x = length; x < 8; x++) {
            samples[y][x] = 2;
        }
        // The end: e = 2, K 1, m = 3. Then a = 2, all above are 0: context 2, e = 0, K 1 and then 0.
        String behind = length == 7 ? "" : "10" + "1".repeat(6 - length);
        String what = "a run of " + length + " in row " + y;
        GradientCoder coder = Codes.coded(what, 15, 0, samples, bits + run + " 011" + behind);
        Check.same(what + ": run index", coder.runIndex(), index);
    }

    // The run index is not set back at the end of a row.
    private static void runIndexGoesOn() {
        // One column: four bits 1, then J is 1 and a bit 1 stands for the one that is left.
        GradientCoder coder = Codes.coded("one column", 15, 0, new int[8][1], "11111111");
        Check.same("run index", coder.runIndex(), 4);
        // Two columns: four bits 1 of J 0, four of J 1; then J is 2 and two are left.
        coder = Codes.coded("two columns", 15, 0, new int[8][2], "1111 1111 1 1");
        Check.same("run index", coder.runIndex(), 8);
    }
}
