/** Promise 9: decode, and what it leaves for number, sample, rebuilt, context and runIndex. */
public final class DecodeTest {
    private static final int[][] SAMPLES = {{0, 0, 90, 74}, {68, 50, 43, 205}, {64, 145, 145, 145}};

    public static void main(String[] args) {
        readsWhatWasWritten();
        answersHowMany();
        theCodeStays();
        readsIntoAnyPicture();
        picturesOfOtherNumbers();
        isAPictureLikeAnyOther();
        everyCut();
        whatThrowsLeavesAll();
        canBeReadAgain();
        Check.end();
    }

    // "its samples and rebuilt values are what is read, contexts and run index as reading leaves them".
    private static void readsWhatWasWritten() {
        for (int near = 0; near <= 3; near++) {
            GradientCoder coder = Face.encoded(255, near, SAMPLES);
            String left = Face.left(coder);
            String rebuilt = Face.rebuilt(coder);
            Check.same("decode()", Codes.read(coder), 12);
            Check.same("what reading leaves", Face.left(coder), left);
            Check.same("samples", Face.samples(coder), rebuilt.replace("rebuilt", "samples"));
            boolean isSame = Face.samples(coder).equals(Face.values(" samples", SAMPLES));
            Check.same("NEAR " + near + ": samples are as they were", isSame ? 1 : 0, near == 0 ? 1 : 0);
        }
    }

    // "How many samples there are."
    private static void answersHowMany() {
        for (int width = 1; width <= 8; width++) {
            for (int height = 1; height <= 8; height++) {
                GradientCoder coder = Face.encoded(15, 0, new int[height][width]);
                Check.same("decode() of " + width + ", " + height, Codes.read(coder), width * height);
            }
        }
    }

    private static void theCodeStays() {
        GradientCoder coder = Codes.holding(1, 1, 15, 0, "0" + Codes.limited(18, 0, 4));
        String code = Face.code(coder);
        Check.same("decode()", Codes.read(coder), 1);
        Check.same("the code", Face.code(coder), code);
        Check.same("size()", coder.size(), 11);
        Check.same("decode() again", Codes.read(coder), 1);
    }

    // What stood in the object before does not show in what is read.
    private static void readsIntoAnyPicture() {
        GradientCoder coder = Face.encoded(255, 0, SAMPLES);
        String coded = Face.all(coder);
        for (int y = 0; y < 3; y++) {
            Check.yes("row", coder.row(y, Face.row(9, 8, 7, 6)));
        }
        Check.same("decode()", Codes.read(coder), 12);
        Check.same("all", Face.all(coder), coded);
        GradientCoder other = Codes.holding(Codes.bytes(2, 2, 15, 0, "11 11"));
        Check.same("decode()", Codes.read(other), 4);
        Check.same("as if it were coded", Face.all(other), Face.all(Face.encoded(15, 0, new int[2][2])));
        Check.same("no sample of the picture before", other.sample(2, 0), -1);
    }

    // "the picture becomes what it says": the same bits are other pictures under other numbers.
    private static void picturesOfOtherNumbers() {
        GradientCoder coder = Face.encoded(9, 0, new int[3][4]);
        Check.yes("poke", coder.poke(4, 200) && coder.poke(5, 2));
        Check.same("decode()", Codes.read(coder), 12);
        Check.same("numbers", Face.numbers(coder), "numbers 4 3 200 2 41 6 32 9 17 35");
        Check.same("A at first", coder.context(0, 0), 2);
        Check.same("run index", coder.runIndex(), 8);
        Check.yes("poke", coder.poke(2, 1) && coder.poke(3, 8) && coder.poke(4, 255) && coder.poke(5, 0));
        Check.same("decode()", Codes.read(coder), 8);
        Check.same("numbers", Face.numbers(coder), "numbers 1 8 255 0 256 8 32 3 7 21");
        Check.same("A at first", coder.context(0, 0), 4);
        Check.same("run index", coder.runIndex(), 4);
        // And a row is one of the new picture.
        Check.yes("row(7)", coder.row(7, -1L));
        Check.same("sample(0, 7)", coder.sample(0, 7), 255);
    }

    private static void isAPictureLikeAnyOther() {
        GradientCoder coder = Codes.holding(Codes.bytes(1, 3, 6, 1, "0 11 11 010"));
        Check.same("decode()", Codes.read(coder), 3);
        GradientCoder framed = Face.framed(6, 1, new int[][] {{3}, {0}, {6}});
        Check.same("encode()", coder.encode(), framed.encode());
        Check.same("all", Face.all(coder), Face.all(framed));
    }

    private static void everyCut() {
        GradientCoder coder = Face.encoded(255, 0, SAMPLES);
        int size = coder.size();
        for (int n = size - 1; n >= 0; n--) {
            Check.yes("cut(" + n + ")", coder.cut(n));
            Check.unreadable("cut to " + n, coder);
        }
        Check.same("coded again", coder.encode(), size);
        Check.same("decode()", Codes.read(coder), 12);
    }

    // "What throws leaves everything as it was": the picture, its samples, rebuilt values, contexts, the run index, and
    // the code; wherever reading stops, and however often.
    private static void whatThrowsLeavesAll() {
        GradientCoder coder = Face.encoded(100, 2, new int[][] {{7, 7, 7, 30, 30}, {7, 7, 9, 99, 0}});
        Check.yes("row", coder.row(1, Face.row(1, 2, 3, 4, 5)));
        int last = coder.size() - 1;
        Check.same("code", Face.code(coder), "255 216 5 2 100 2 116 1 171 3 64 255 217");
        // Found at the end (the last two, a bit that is left), in the last two samples (the bits end), in the head.
        int[][] spoilt = {{last, 216}, {last - 1, 254}, {10, 65}, {9, 0}, {5, 51}, {4, 2}, {3, 9}, {2, 0}, {1, 0}, {0, 0}};
        for (int[] poke : spoilt) {
            int was = coder.code(poke[0]);
            Check.yes("poke", coder.poke(poke[0], poke[1]));
            for (int i = 0; i < 2; i++) {
                Check.unreadable("byte " + poke[0] + " is " + poke[1], coder);
            }
            Check.yes("poke", coder.poke(poke[0], was));
        }
        // Another picture whose last sample only is wrong: m = 16 is e = 8 of context 4.
        GradientCoder other = Codes.holding(2, 1, 15, 0, "0 000011 000000001 0");
        Check.unreadable("the last sample", other);
        Check.same("width", other.number(0), 8);
        Check.same("MAXVAL", other.number(2), 255);
        Check.same("a sample", other.sample(7, 0), 0xa1);
        // What was thrown at does not show in the next coding.
        int size = other.encode();
        GradientCoder same = Codes.holding(1, 1, 15, 0, "1");
        Check.same("encode()", size, same.encode());
        Check.same("all", Face.all(other), Face.all(same));
    }

    private static void canBeReadAgain() {
        GradientCoder coder = Face.encoded(255, 1, SAMPLES);
        Check.same("decode()", Codes.read(coder), 12);
        String all = Face.all(coder);
        Check.yes("poke", coder.poke(0, 254));
        Check.same("decode() throws", Codes.read(coder), -1);
        Check.yes("poke", coder.poke(0, 255));
        Check.same("decode()", Codes.read(coder), 12);
        Check.same("all", Face.all(coder), all);
        Check.same("decode() once more", Codes.read(coder), 12);
        Check.same("all", Face.all(coder), all);
    }
}
