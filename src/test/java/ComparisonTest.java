import java.util.ArrayList;
import java.util.List;
import java.util.Random;

/** All promises: many pictures, and codes that were spoiled, against the plain writing of the document. */
public final class ComparisonTest {
    // A seed of its own, so that each run of this test is the same.
    private static final Random RANDOM = new Random(20261115L);
    private static int read = 0;
    private static int unread = 0;

    public static void main(String[] args) {
        allNumbers();
        for (int i = 0; i < 3000; i++) {
            onePicture();
        }
        Check.yes("spoiled codes that can be read", read > 5000);
        Check.yes("spoiled codes that can't be read", unread > 5000);
        Check.end();
    }

    private static void allNumbers() {
        GradientCoder coder = new GradientCoder();
        for (int maxval = 3; maxval <= 255; maxval++) {
            for (int near = 0; near <= 3 && near <= maxval / 2; near++) {
                coder.frame(2, 1, maxval, near);
                Check.same("numbers", Face.numbers(coder), numbers(new PlainCoder(2, 1, maxval, near)));
            }
        }
    }

    private static void onePicture() {
        int maxval = anyMaxval();
        int near = RANDOM.nextInt(Math.min(3, maxval / 2) + 1);
        int[][] samples = samples(1 + RANDOM.nextInt(8), 1 + RANDOM.nextInt(8), maxval);
        GradientCoder coder = Face.framed(maxval, near, samples);
        PlainCoder plain = PlainCoder.coded(samples, maxval, near);
        Check.same("encode()", coder.encode(), plain.code.size());
        Check.same("coded", state(coder), state(plain));
        withinNear(coder, samples, near);
        Check.same("decode()", decoded(coder), plain.width * plain.height);
        Check.same("read", state(coder), state(plain));
        Check.same("read samples", Face.samples(coder), Face.rebuilt(coder).replace("rebuilt", "samples"));
        for (int i = 0; i < 12; i++) {
            coder.encode();
            spoil(coder);
            compareReading(coder);
        }
    }

    private static int anyMaxval() {
        switch (RANDOM.nextInt(4)) {
            case 0: return 255;
            case 1: return 3 + RANDOM.nextInt(14);
            default: return 3 + RANDOM.nextInt(253);
        }
    }

    private static void withinNear(GradientCoder coder, int[][] samples, int near) {
        for (int y = 0; y < samples.length; y++) {
            for (int x = 0; x < samples[y].length; x++) {
                Check.yes("rebuilt within NEAR", Math.abs(coder.rebuilt(x, y) - samples[y][x]) <= near);
            }
        }
    }

    private static int[][] samples(int width, int height, int maxval) {
        int way = RANDOM.nextInt(5);
        int[][] samples = new int[height][width];
        int[] few = {RANDOM.nextInt(maxval + 1), RANDOM.nextInt(maxval + 1), RANDOM.nextInt(maxval + 1)};
        int value = few[0];
        for (int y = 0; y < height; y++) {
            for (int x = 0; x < width; x++) {
                switch (way) {
                    case 0:
                        value = RANDOM.nextInt(maxval + 1);
                        break;
                    case 1:
                        value = few[RANDOM.nextInt(8) == 0 ? 1 + RANDOM.nextInt(2) : 0];
                        break;
                    case 2:
                        value = Math.max(0, Math.min(maxval, value + RANDOM.nextInt(7) - 3));
                        break;
                    case 3:
                        value = Math.max(0, Math.min(maxval, few[0] + x * (few[1] % 9) - y * (few[2] % 9)));
                        break;
                    default:
                        value = RANDOM.nextInt(4) == 0 ? few[RANDOM.nextInt(3)] : value;
                        break;
                }
                samples[y][x] = value;
            }
        }
        return samples;
    }

    private static void spoil(GradientCoder coder) {
        int way = RANDOM.nextInt(6);
        int body = 6 + RANDOM.nextInt(coder.size() - 8);
        if (way == 0) {
            coder.poke(body, coder.code(body) ^ 1 << RANDOM.nextInt(8));
        } else if (way == 1) {
            coder.poke(body, RANDOM.nextInt(3) == 0 ? 255 : RANDOM.nextInt(256));
        } else if (way == 2) {
            coder.poke(2 + RANDOM.nextInt(4), RANDOM.nextInt(9));
        } else if (way == 3) {
            cutWithEnd(coder);
        } else if (way == 4) {
            fitting(coder);
        } else {
            coder.poke(RANDOM.nextInt(coder.size()), RANDOM.nextInt(256));
        }
    }

    private static void cutWithEnd(GradientCoder coder) {
        coder.cut(RANDOM.nextInt(coder.size() + 1));
        coder.poke(coder.size() - 2, 255);
        coder.poke(coder.size() - 1, 217);
    }

    // Bits at will, in a code that ends where reading needs it to: most of them can be read, and are what coding
    // would never give.
    private static void fitting(GradientCoder coder) {
        int ones = 1 + RANDOM.nextInt(7);
        for (int i = 6; i < coder.size() - 2; i++) {
            int b = 0;
            for (int bit = 0; bit < 8; bit++) {
                b = 2 * b + (RANDOM.nextInt(8) < ones ? 1 : 0);
            }
            coder.poke(i, coder.code(i - 1) == 255 && i > 6 ? b & 127 : b);
        }
        coder.poke(2, 1 + RANDOM.nextInt(8));
        for (int end = 9; end <= coder.size(); end++) {
            for (int height = 1; height <= 8; height++) {
                List<Integer> code = bytes(coder).subList(0, end);
                code.set(3, height);
                code.set(end - 2, 255);
                code.set(end - 1, 217);
                for (int left = 0; left < 8; left++) {
                    code.set(end - 3, coder.code(end - 3) >> left << left);
                    if (PlainCoder.read(code) != null) {
                        coder.cut(end);
                        for (int i = 0; i < end; i++) {
                            coder.poke(i, code.get(i));
                        }
                        return;
                    }
                }
            }
        }
    }

    private static void compareReading(GradientCoder coder) {
        PlainCoder plain = PlainCoder.read(bytes(coder));
        if (plain == null) {
            unread++;
            Check.unreadable("spoiled code " + Face.code(coder), coder);
            return;
        }
        read++;
        Check.same("decode() of " + Face.code(coder), decoded(coder), plain.width * plain.height);
        Check.same("read of " + Face.code(coder), state(coder), state(plain));
        // What was read is a picture like any other.
        PlainCoder again = PlainCoder.coded(plain.rebuilt, plain.maxval, plain.near);
        Check.same("encode() of what was read", coder.encode(), again.code.size());
        Check.same("coded of what was read", state(coder), state(again));
    }

    private static int decoded(GradientCoder coder) {
        try {
            return coder.decode();
        } catch (IllegalArgumentException e) {
            return -1;
        }
    }

    private static List<Integer> bytes(GradientCoder coder) {
        List<Integer> bytes = new ArrayList<>();
        for (int i = 0; i < coder.size(); i++) {
            bytes.add(coder.code(i));
        }
        return bytes;
    }

    private static String state(GradientCoder coder) {
        return Face.numbers(coder) + Face.rebuilt(coder) + Face.contexts(coder) + " run index " + coder.runIndex()
            + " code " + bytes(coder);
    }

    private static String numbers(PlainCoder plain) {
        StringBuilder text = new StringBuilder("numbers");
        int[] all = {plain.width, plain.height, plain.maxval, plain.near, plain.range, plain.qb, plain.limit,
            plain.t[1], plain.t[2], plain.t[3]};
        for (int number : all) {
            text.append(' ').append(number);
        }
        return text.toString();
    }

    private static String state(PlainCoder plain) {
        StringBuilder text = new StringBuilder(numbers(plain)).append(" rebuilt");
        for (int[] row : plain.rebuilt) {
            for (int value : row) {
                text.append(' ').append(value);
            }
        }
        text.append(" contexts");
        for (int[] context : plain.contexts) {
            for (int value : context) {
                text.append(' ').append(value);
            }
        }
        return text.append(" run index ").append(plain.runIndex).append(" code ").append(plain.code).toString();
    }
}
