/** Promises 5 to 8: size, code, poke, cut. */
public final class CodeBytesTest {
    private static final int[] NO_BYTES = {Integer.MIN_VALUE, -256, -2, -1, 9, 10, 511, 512, 513, 256 + 8,
        Integer.MAX_VALUE};

    public static void main(String[] args) {
        emptyCode();
        sizes();
        bytes();
        pokes();
        pokesOutOfBounds();
        pokesLeaveAllElse();
        cuts();
        cutsOutOfBounds();
        cutTwice();
        cutsLeaveAllElse();
        longCode();
        Check.end();
    }

    private static GradientCoder coded() {
        GradientCoder coder = new GradientCoder();
        Check.same("encode()", coder.encode(), 9);
        return coder;
    }

    // The empty code of a new object, behind frame, and behind cut(0): no byte is there.
    private static void emptyCode() {
        GradientCoder framed = coded();
        framed.frame(2, 2, 9, 0);
        GradientCoder cut = coded();
        Check.yes("cut(0)", cut.cut(0));
        for (GradientCoder coder : new GradientCoder[] {new GradientCoder(), framed, cut}) {
            Check.same("size()", coder.size(), 0);
            for (int i : new int[] {-1, 0, 1, 8, 9, Integer.MIN_VALUE, Integer.MAX_VALUE}) {
                Check.same("code(" + i + ")", coder.code(i), -1);
                Check.refused("poke(" + i + ", 0)", coder, () -> coder.poke(i, 0));
            }
            Check.refused("cut(1)", coder, () -> coder.cut(1));
            Check.refused("cut(-1)", coder, () -> coder.cut(-1));
            Check.yes("cut(0)", coder.cut(0));
            Check.same("size()", coder.size(), 0);
        }
    }

    // "How many bytes the code has": behind each call that changes it.
    private static void sizes() {
        GradientCoder coder = new GradientCoder();
        Check.same("new", coder.size(), 0);
        Check.same("encode()", coder.encode(), 9);
        Check.same("coded", coder.size(), 9);
        Check.same("asked again", coder.size(), 9);
        coder.row(0, Face.row(200));
        Check.same("behind row", coder.size(), 9);
        coder.poke(4, 7);
        Check.same("behind poke", coder.size(), 9);
        coder.cut(8);
        Check.same("behind cut", coder.size(), 8);
        Check.same("encode()", coder.encode(), 12);
        Check.same("coded again", coder.size(), 12);
        coder.frame(1, 1, 255, 0);
        Check.same("behind frame", coder.size(), 0);
    }

    // "Byte i of the code; BAD when there is none."
    private static void bytes() {
        GradientCoder coder = coded();
        int[] due = {255, 216, 1, 1, 255, 0, 128, 255, 217};
        for (int i = 0; i < 9; i++) {
            Check.same("code(" + i + ")", coder.code(i), due[i]);
        }
        for (int i : NO_BYTES) {
            Check.same("code(" + i + ")", coder.code(i), -1);
        }
    }

    // "Byte i of the code becomes b: true": the first, one within, the last; the least and the greatest b.
    private static void pokes() {
        for (int i : new int[] {0, 4, 8}) {
            for (int b : new int[] {0, 1, 127, 128, 254, 255}) {
                GradientCoder coder = coded();
                Check.yes("poke(" + i + ", " + b + ")", coder.poke(i, b));
                int[] due = {255, 216, 1, 1, 255, 0, 128, 255, 217};
                due[i] = b;
                Check.same("code behind poke", Face.code(coder), Codes.text(due));
            }
        }
    }

    // "false when there is no such byte, or b is not 0 .. 255."
    private static void pokesOutOfBounds() {
        GradientCoder coder = coded();
        for (int i : NO_BYTES) {
            Check.refused("poke(" + i + ", 0)", coder, () -> coder.poke(i, 0));
            Check.refused("poke(" + i + ", 256)", coder, () -> coder.poke(i, 256));
        }
        for (int b : new int[] {Integer.MIN_VALUE, -256, -255, -1, 256, 257, 511, 512, Integer.MAX_VALUE}) {
            Check.refused("poke(0, " + b + ")", coder, () -> coder.poke(0, b));
            Check.refused("poke(8, " + b + ")", coder, () -> coder.poke(8, b));
        }
    }

    // The picture goes by the code only when it is read.
    private static void pokesLeaveAllElse() {
        GradientCoder coder = coded();
        String left = Face.left(coder) + Face.samples(coder);
        Check.yes("poke(4, 77)", coder.poke(4, 77));
        Check.yes("poke(2, 8)", coder.poke(2, 8));
        Check.same("all else", Face.left(coder) + Face.samples(coder), left);
    }

    // "The code keeps its first n bytes: true": all of it, some, none.
    private static void cuts() {
        int[] whole = {255, 216, 1, 1, 255, 0, 128, 255, 217};
        for (int n = 0; n <= 9; n++) {
            GradientCoder coder = coded();
            Check.yes("cut(" + n + ")", coder.cut(n));
            Check.same("size()", coder.size(), n);
            Check.same("code", Face.code(coder), Codes.text(java.util.Arrays.copyOf(whole, n)));
            Check.same("code(n)", coder.code(n), -1);
            int behind = n;
            Check.refused("poke behind the cut", coder, () -> coder.poke(behind, 1));
        }
    }

    // "false when n is less than 0 or more than it has."
    private static void cutsOutOfBounds() {
        GradientCoder coder = coded();
        for (int n : new int[] {Integer.MIN_VALUE, -9, -1, 10, 11, 512, Integer.MAX_VALUE}) {
            Check.refused("cut(" + n + ")", coder, () -> coder.cut(n));
        }
    }

    // What was cut off does not come again.
    private static void cutTwice() {
        GradientCoder coder = coded();
        Check.yes("cut(3)", coder.cut(3));
        Check.refused("cut(4)", coder, () -> coder.cut(4));
        Check.refused("cut(9)", coder, () -> coder.cut(9));
        Check.yes("cut(3) again", coder.cut(3));
        Check.yes("cut(2)", coder.cut(2));
        Check.same("code", Face.code(coder), "255 216");
        Check.same("encode() again", coder.encode(), 9);
        Check.same("code", Face.code(coder), "255 216 1 1 255 0 128 255 217");
    }

    private static void cutsLeaveAllElse() {
        GradientCoder coder = Face.encoded(99, 1, new int[][] {{5, 50}, {90, 5}});
        String left = Face.left(coder) + Face.samples(coder);
        Check.yes("cut(5)", coder.cut(5));
        Check.same("all else", Face.left(coder) + Face.samples(coder), left);
    }

    // The last byte of a code of another size.
    private static void longCode() {
        GradientCoder coder = new GradientCoder();
        coder.frame(8, 8, 255, 0);
        for (int y = 0; y < 8; y++) {
            coder.row(y, 0x80ff00017f40c0a5L * (2 * y + 1));
        }
        int size = coder.encode();
        Check.yes("a long code", size > 64);
        Check.same("the last byte", coder.code(size - 1), 217);
        Check.same("no such byte", coder.code(size), -1);
        Check.yes("poke the last byte", coder.poke(size - 1, 1));
        Check.refused("poke no such byte", coder, () -> coder.poke(size, 1));
        Check.refused("cut to more", coder, () -> coder.cut(size + 1));
        Check.yes("cut to all", coder.cut(size));
        Check.yes("cut to one less", coder.cut(size - 1));
        Check.same("size()", coder.size(), size - 1);
        Check.same("the last byte", coder.code(size - 2), 255);
    }
}
