/** All that the face of an object answers, as a text, and short ways to fill an object. */
final class Face {
    private Face() {
    }

    static String all(GradientCoder coder) {
        return left(coder) + samples(coder) + " code " + code(coder);
    }

    /** The numbers, and what coding or reading has left. */
    static String left(GradientCoder coder) {
        return numbers(coder) + rebuilt(coder) + contexts(coder) + " run index " + coder.runIndex();
    }

    static String numbers(GradientCoder coder) {
        StringBuilder text = new StringBuilder("numbers");
        for (int what = 0; what <= 9; what++) {
            text.append(' ').append(coder.number(what));
        }
        return text.toString();
    }

    static String samples(GradientCoder coder) {
        StringBuilder text = new StringBuilder(" samples");
        for (int y = 0; y < coder.number(1); y++) {
            for (int x = 0; x < coder.number(0); x++) {
                text.append(' ').append(coder.sample(x, y));
            }
        }
        return text.toString();
    }

    static String rebuilt(GradientCoder coder) {
        StringBuilder text = new StringBuilder(" rebuilt");
        for (int y = 0; y < coder.number(1); y++) {
            for (int x = 0; x < coder.number(0); x++) {
                text.append(' ').append(coder.rebuilt(x, y));
            }
        }
        return text.toString();
    }

    /** Values row by row, as samples() and rebuilt() tell them. */
    static String values(String name, int[][] values) {
        StringBuilder text = new StringBuilder(name);
        for (int[] row : values) {
            for (int value : row) {
                text.append(' ').append(value);
            }
        }
        return text.toString();
    }

    static String contexts(GradientCoder coder) {
        StringBuilder text = new StringBuilder(" contexts");
        for (int q = 0; q < 367; q++) {
            for (int what = 0; what < 5; what++) {
                text.append(' ').append(coder.context(q, what));
            }
        }
        return text.toString();
    }

    /** The contexts that were used and how often, as N tells it: 9x1 is context 9 for one sample. */
    static String used(GradientCoder coder) {
        StringBuilder text = new StringBuilder();
        for (int q = 0; q < 367; q++) {
            int n = coder.context(q, 3);
            if (n != 1) {
                text.append(text.length() == 0 ? "" : " ").append(q).append('x').append(n - 1);
            }
        }
        return text.toString();
    }

    static String code(GradientCoder coder) {
        StringBuilder text = new StringBuilder();
        for (int i = 0; i < coder.size(); i++) {
            text.append(i == 0 ? "" : " ").append(coder.code(i));
        }
        return text.toString();
    }

    /** A row as row() takes it. */
    static long row(int... samples) {
        long row = 0;
        for (int x = 0; x < samples.length; x++) {
            row |= (long) samples[x] << (56 - 8 * x);
        }
        return row;
    }

    static GradientCoder framed(int maxval, int near, int[][] samples) {
        GradientCoder coder = new GradientCoder();
        Check.yes("frame", coder.frame(samples[0].length, samples.length, maxval, near));
        fill(coder, samples);
        return coder;
    }

    static GradientCoder encoded(int maxval, int near, int[][] samples) {
        GradientCoder coder = framed(maxval, near, samples);
        coder.encode();
        return coder;
    }

    static void fill(GradientCoder coder, int[][] samples) {
        for (int y = 0; y < samples.length; y++) {
            Check.yes("row", coder.row(y, row(samples[y])));
        }
    }
}
