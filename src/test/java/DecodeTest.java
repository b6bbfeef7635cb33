/** Promise 9: decode, and what it leaves for number, sample, rebuilt, context and runIndex. */
public final class DecodeTest {
    private static final int[][] SAMPLES = {{0, 0, 90, 74}, {68, 50, 43, 205}, {64, 145, 145, 145}};

    public static void main(String[] args) {
        readsWhatWasWritten();
        readsInto();
        head();
        cuts();
        end();
        stuffedBits();
        otherCodes();
        runs();
        bounds();
        Check.end();
    }

    private static int read(GradientCoder coder) {
        try {
            return coder.decode();
        } catch (IllegalArgumentException e) {
            return -1;
        }
    }

    private static void readsWhatWasWritten() {
        for (int near = 0; near <= 3; near++) {
            GradientCoder coder = Face.framed(255, near, SAMPLES);
            coder.encode();
            String rebuilt = Face.rebuilt(coder);
            String rest = Face.numbers(coder) + Face.contexts(coder) + coder.runIndex() + Face.code(coder);
            Check.same("decode()", read(coder), 12);
            Check.same("rebuilt", Face.rebuilt(coder), rebuilt);
            Check.same("samples", Face.samples(coder), rebuilt.replace("rebuilt", "samples"));
            Check.same("all else", Face.numbers(coder) + Face.contexts(coder) + coder.runIndex()
                + Face.code(coder), rest);
        }
    }

    // What stood in the object before does not show in what is read.
    private static void readsInto() {
        GradientCoder coder = Face.framed(255, 0, SAMPLES);
        coder.encode();
        String coded = Face.all(coder);
        for (int y = 0; y < 3; y++) {
            Check.yes("row", coder.row(y, Face.row(9, 8, 7, 6)));
        }
        Check.same("decode()", read(coder), 12);
        Check.same("all", Face.all(coder), coded);
        coder.frame(8, 8, 10, 1);
        coder.encode();
        Check.same("decode()", read(coder), 64);
        Check.same("number(2)", coder.number(2), 10);
        // 4 columns and 3 rows with MAXVAL 9 make eight bits 1; the same bits are a picture of others too.
        coder = Face.framed(9, 0, new int[3][4]);
        coder.encode();
        coder.poke(4, 200);
        coder.poke(5, 2);
        Check.same("decode()", read(coder), 12);
        Check.same("numbers", Face.numbers(coder), "numbers 4 3 200 2 41 6 32 9 17 35");
        Check.same("samples", Face.samples(coder), " samples 0 0 0 0 0 0 0 0 0 0 0 0");
        Check.same("context(0, 0)", coder.context(0, 0), 2);
        Check.same("run index", coder.runIndex(), 8);
    }

    private static void head() {
        int[][] bad = {{0, 254}, {0, 0}, {1, 217}, {1, 255}, {2, 0}, {2, 9}, {3, 0}, {3, 9}, {4, 2}, {4, 0},
            {5, 4}, {5, 255}};
        GradientCoder coder = Face.framed(9, 0, new int[3][4]);
        for (int[] poke : bad) {
            coder.encode();
            coder.poke(poke[0], poke[1]);
            Check.unreadable("byte " + poke[0] + " is " + poke[1], coder);
        }
        coder.encode();
        coder.poke(4, 5);
        coder.poke(5, 3);
        Check.unreadable("NEAR is more than MAXVAL / 2", coder);
        coder.poke(4, 6);
        Check.same("NEAR is MAXVAL / 2", read(coder), 12);
    }

    private static void cuts() {
        GradientCoder coder = Face.framed(255, 0, SAMPLES);
        int size = coder.encode();
        for (int n = size - 1; n >= 0; n--) {
            coder.cut(n);
            Check.unreadable("cut to " + n, coder);
        }
        Check.same("coded again", coder.encode(), size);
        Check.same("decode()", read(coder), 12);
    }

    private static void end() {
        GradientCoder coder = new GradientCoder();
        coder.encode();
        for (int bit = 0; bit < 7; bit++) {
            coder.poke(6, 128 | 1 << bit);
            Check.unreadable("a bit that is left is 1", coder);
        }
        coder.poke(6, 128);
        Check.same("decode()", read(coder), 1);
        coder.poke(7, 254);
        Check.unreadable("the last but one is 254", coder);
        coder.poke(7, 255);
        coder.poke(8, 216);
        Check.unreadable("the last is 216", coder);
        // A byte too many: eight bits 1 and one 0 are 4 columns and 3 rows; 128 is one column and row.
        coder = Face.framed(9, 0, new int[3][4]);
        coder.encode();
        coder.poke(2, 1);
        coder.poke(3, 1);
        coder.poke(6, 128);
        Check.unreadable("a byte more than is needed", coder);
    }

    private static void stuffedBits() {
        GradientCoder coder = Face.framed(9, 0, new int[4][4]);
        coder.encode();
        Check.same("code", Face.code(coder), "255 216 4 4 9 0 255 64 255 217");
        Check.same("decode()", read(coder), 16);
        for (int b : new int[] {192, 128, 255}) {
            coder.poke(7, b);
            Check.unreadable("behind 255 comes " + b, coder);
        }
        coder.poke(7, 65);
        Check.unreadable("a bit that is left is 1", coder);
        coder.poke(3, 3);
        coder.poke(7, 64);
        Check.unreadable("behind the last 255 comes 64", coder);
        coder.poke(7, 0);
        Check.same("behind the last 255 comes 0", read(coder), 12);
        coder.cut(9);
        coder.poke(7, 255);
        coder.poke(8, 217);
        Check.unreadable("behind the last 255 comes the end", coder);
    }

    // The code of 200 in one sample is 0 0 1 109: bit 0, then 22 bits 0, 1, and m - 1 = 109.
    private static GradientCoder single() {
        GradientCoder coder = Face.framed(255, 0, new int[][] {{200}});
        coder.encode();
        Check.same("code", Face.code(coder), "255 216 1 1 255 0 0 0 1 109 255 217");
        return coder;
    }

    private static void otherCodes() {
        GradientCoder coder = single();
        // m = 1 could be written by 3 bits.
        Face.pokeBody(coder, 0, 0, 1, 0);
        Check.same("decode()", read(coder), 1);
        Check.same("sample", coder.sample(0, 0), 1);
        coder.encode();
        Check.same("coded again it is shorter", Face.code(coder), "255 216 1 1 255 0 80 255 217");
    }

    private static void runs() {
        // Seven columns: 1, 1, 1, 1, 2, and 1 left with J 1.
        GradientCoder coder = Face.framed(9, 0, new int[1][7]);
        coder.encode();
        Check.same("code", Face.code(coder), "255 216 7 1 9 0 252 255 217");
        Check.same("decode()", read(coder), 7);
        Check.same("run index", coder.runIndex(), 5);
        // 1111 1 0 0, then K 1: 9 is e = 9 - 10 = -1, FLIP 1, m = 0: bits 1, 0.
        coder = Face.framed(9, 0, new int[][] {{0, 0, 0, 0, 0, 0, 9}});
        coder.encode();
        Check.same("code", Face.code(coder), "255 216 7 1 9 0 249 0 255 217");
        Check.same("decode()", read(coder), 7);
        Check.same("sample", coder.sample(6, 0), 9);
        Check.same("run index", coder.runIndex(), 4);
        // 1111 1 0 1: the one that is left is of the run, so none is left for its end.
        coder.poke(6, 251);
        Check.unreadable("a run leaves no sample for its end", coder);
    }

    private static void bounds() {
        GradientCoder coder = single();
        Face.pokeBody(coder, 0, 0, 0, 109);
        Check.unreadable("more bits 0 than can be written", coder);
        Face.pokeBody(coder, 0, 0, 1, 253);
        Check.same("m = 254, e = -128", read(coder), 1);
        Check.same("sample", coder.sample(0, 0), 128);
        Face.pokeBody(coder, 0, 0, 1, 252);
        Check.same("m = 253, e = 127", read(coder), 1);
        Check.same("sample", coder.sample(0, 0), 127);
        Face.pokeBody(coder, 0, 0, 1, 254);
        Check.unreadable("m = 255, e = 128", coder);
        // MAXVAL 8 has RANGE 9: e is from -4 to 4; QB is 4, LIMIT 24: bit 0, 24 - 1 - 4 - 1 = 18 bits 0, 1, and
        // m - 1 in 4 bits are three bytes. A code of three bytes is had from another picture.
        coder = Face.framed(255, 0, new int[][] {{40}});
        coder.encode();
        Check.same("size", coder.size(), 11);
        coder.poke(4, 8);
        Face.pokeBody(coder, 0, 0, 16 + 6);
        Check.same("m = 7, e = 4", read(coder), 1);
        Check.same("sample", coder.sample(0, 0), 4);
        coder.poke(8, 16 + 5);
        Check.same("m = 6, e = -4 (with FLIP)", read(coder), 1);
        Check.same("sample", coder.sample(0, 0), 5);
        coder.poke(8, 16 + 7);
        Check.unreadable("m = 8, e = -5", coder);
    }
}
