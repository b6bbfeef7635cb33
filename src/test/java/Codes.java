/** Codes made by hand, from bits that are written with spaces for the eye. */
final class Codes {
    private Codes() {
    }

    static int[] bytes(int width, int height, int maxval, int near, String bits) {
        int[] body = body(bits.replace(" ", ""));
        int[] bytes = new int[body.length + 8];
        int[] head = {255, 216, width, height, maxval, near};
        System.arraycopy(head, 0, bytes, 0, 6);
        System.arraycopy(body, 0, bytes, 6, body.length);
        bytes[bytes.length - 2] = 255;
        bytes[bytes.length - 1] = 217;
        return bytes;
    }

    private static int[] body(String bits) {
        int[] body = new int[bits.length() / 7 + 2];
        int size = 0;
        String left = bits;
        while (!left.isEmpty()) {
            boolean isStuffed = size > 0 && body[size - 1] == 255;
            int count = Math.min(left.length(), isStuffed ? 7 : 8);
            String piece = (isStuffed ? "0" : "") + left.substring(0, count) + "0000000";
            body[size++] = Integer.parseInt(piece.substring(0, 8), 2);
            left = left.substring(count);
        }
        if (size > 0 && body[size - 1] == 255) {
            body[size++] = 0;
        }
        return java.util.Arrays.copyOf(body, size);
    }

    static String text(int... bytes) {
        StringBuilder text = new StringBuilder();
        for (int i = 0; i < bytes.length; i++) {
            text.append(i == 0 ? "" : " ").append(bytes[i]);
        }
        return text.toString();
    }

    /** So many bits 0, a bit 1, and a number in so many bits: what is at the limit is written so. */
    static String limited(int zeros, int value, int count) {
        return zeros(zeros) + "1" + binary(value, count);
    }

    static String zeros(int count) {
        return "0".repeat(count);
    }

    static String binary(int value, int count) {
        String all = "0".repeat(31) + Integer.toBinaryString(value);
        return all.substring(all.length() - count);
    }

    /** An object whose code is these bytes, and whose picture is another one. */
    static GradientCoder holding(int... bytes) {
        GradientCoder coder = new GradientCoder();
        Check.yes("frame", coder.frame(8, 8, 255, 0));
        // Rows that have nothing in common have a code that is longer than any that is made by hand.
        for (int y = 0; y < 8; y++) {
            Check.yes("row", coder.row(y, 0x13ff40c927e085a1L * (2 * y + 1)));
        }
        coder.encode();
        Check.yes("a code as long as " + bytes.length, coder.cut(bytes.length));
        for (int i = 0; i < bytes.length; i++) {
            Check.yes("poke(" + i + ", " + bytes[i] + ")", coder.poke(i, bytes[i]));
        }
        return coder;
    }

    static GradientCoder holding(int width, int height, int maxval, int near, String bits) {
        return holding(bytes(width, height, maxval, near, bits));
    }

    /** The picture has the code of these bits, and an object that holds them reads what coding left. */
    static GradientCoder coded(String what, int maxval, int near, int[][] samples, String bits) {
        int[] due = bytes(samples[0].length, samples.length, maxval, near, bits);
        GradientCoder coder = Face.framed(maxval, near, samples);
        Check.same(what + ": encode()", coder.encode(), due.length);
        Check.same(what + ": the code", Face.code(coder), text(due));
        Check.same(what + ": the samples", Face.samples(coder), Face.values(" samples", samples));
        GradientCoder reader = holding(due);
        Check.same(what + ": decode()", read(reader), samples.length * samples[0].length);
        Check.same(what + ": what is read", Face.left(reader), Face.left(coder));
        Check.same(what + ": samples that are read", Face.samples(reader),
            Face.rebuilt(coder).replace("rebuilt", "samples"));
        return coder;
    }

    /** The code can be read, and these are the samples. */
    static GradientCoder readable(String what, GradientCoder coder, int[][] samples) {
        String code = Face.code(coder);
        Check.same(what + ": decode()", read(coder), samples.length * samples[0].length);
        Check.same(what + ": samples", Face.samples(coder), Face.values(" samples", samples));
        Check.same(what + ": rebuilt", Face.rebuilt(coder), Face.values(" rebuilt", samples));
        Check.same(what + ": the code stays", Face.code(coder), code);
        return coder;
    }

    /** What decode() answers; -1 if it throws. */
    static int read(GradientCoder coder) {
        try {
            return coder.decode();
        } catch (IllegalArgumentException e) {
            return -1;
        }
    }
}
