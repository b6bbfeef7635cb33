/** Promises 5 to 8: size, code, poke, cut. */
public final class CodeBytesTest {
    private static final int[] NO_BYTES = {Integer.MIN_VALUE, -1, 9, 10, 511, 512, Integer.MAX_VALUE};

    public static void main(String[] args) {
        sizeAndCode();
        pokes();
        cuts();
        nothingCoded();
        Check.end();
    }

    private static GradientCoder coded() {
        GradientCoder coder = new GradientCoder();
        Check.same("encode()", coder.encode(), 9);
        return coder;
    }

    private static void sizeAndCode() {
        GradientCoder coder = coded();
        Check.same("size()", coder.size(), 9);
        Check.same("code", Face.code(coder), "255 216 1 1 255 0 128 255 217");
        for (int i : NO_BYTES) {
            Check.same("code(" + i + ")", coder.code(i), -1);
        }
    }

    private static void pokes() {
        GradientCoder coder = coded();
        Check.yes("poke(0, 0)", coder.poke(0, 0));
        Check.yes("poke(8, 255)", coder.poke(8, 255));
        Check.yes("poke(4, 77)", coder.poke(4, 77));
        Check.same("code", Face.code(coder), "0 216 1 1 77 0 128 255 255");
        Check.same("size()", coder.size(), 9);
        Check.same("the picture stays", Face.numbers(coder), "numbers 1 1 255 0 256 8 32 3 7 21");
        for (int i : NO_BYTES) {
            Check.refused("poke(" + i + ", 0)", coder, () -> coder.poke(i, 0));
        }
        for (int b : new int[] {Integer.MIN_VALUE, -1, 256, Integer.MAX_VALUE}) {
            Check.refused("poke(0, " + b + ")", coder, () -> coder.poke(0, b));
        }
    }

    private static void cuts() {
        GradientCoder coder = coded();
        for (int n : new int[] {Integer.MIN_VALUE, -1, 10, Integer.MAX_VALUE}) {
            Check.refused("cut(" + n + ")", coder, () -> coder.cut(n));
        }
        Check.yes("cut to all", coder.cut(9));
        Check.same("code", Face.code(coder), "255 216 1 1 255 0 128 255 217");
        Check.yes("cut(3)", coder.cut(3));
        Check.same("size()", coder.size(), 3);
        Check.same("code", Face.code(coder), "255 216 1");
        Check.same("code(3)", coder.code(3), -1);
        Check.refused("poke behind the cut", coder, () -> coder.poke(3, 1));
        Check.refused("cut to more", coder, () -> coder.cut(4));
        Check.yes("cut(0)", coder.cut(0));
        Check.same("size()", coder.size(), 0);
        Check.same("code(0)", coder.code(0), -1);
        Check.same("encode() again", coder.encode(), 9);
        Check.same("code", Face.code(coder), "255 216 1 1 255 0 128 255 217");
    }

    private static void nothingCoded() {
        GradientCoder coder = new GradientCoder();
        Check.same("size()", coder.size(), 0);
        Check.refused("poke(0, 0)", coder, () -> coder.poke(0, 0));
        Check.refused("cut(1)", coder, () -> coder.cut(1));
        Check.yes("cut(0)", coder.cut(0));
    }
}
