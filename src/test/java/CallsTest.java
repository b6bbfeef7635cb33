import java.util.ArrayList;
import java.util.Arrays;
import java.util.List;
import java.util.Random;

/**
 * All promises: new objects, each used for 512 calls in any order and with any arguments, and every answer is the one
 * of a plain model. No call but decode throws, whatever it is given.
 */
public final class CallsTest {
    // A seed of its own, so that each run of this test is the same.
    private static final Random RANDOM = new Random(512L);
    private static final int CALLS = 512;
    private static final int[] ODD = {Integer.MIN_VALUE, Integer.MIN_VALUE + 1, -1000000, -256, -1, 256, 512, 1 << 16,
        1 << 29, 1 << 30, Integer.MAX_VALUE - 1, Integer.MAX_VALUE};
    // Of 32 calls so many are calls of each kind.
    private static final int[] OFTEN = {1, 5, 3, 1, 2, 3, 1, 3, 1, 4, 4, 3, 1};
    private static int read = 0;
    private static int thrown = 0;

    private final GradientCoder coder = new GradientCoder();
    private final StringBuilder run = new StringBuilder();
    private int[][] samples = new int[1][1];
    private List<Integer> code = new ArrayList<>();
    private PlainCoder latest = new PlainCoder(1, 1, 255, 0);

    public static void main(String[] args) {
        for (int i = 0; i < 400; i++) {
            CallsTest test = new CallsTest();
            for (int call = 0; call < CALLS; call++) {
                test.call(anyKind());
            }
        }
        Check.yes("readings: " + read, read > 3000);
        Check.yes("readings that throw: " + thrown, thrown > 3000);
        Check.end();
    }

    private static int anyKind() {
        int left = RANDOM.nextInt(Arrays.stream(OFTEN).sum());
        int kind = 0;
        while (left >= OFTEN[kind]) {
            left -= OFTEN[kind];
            kind++;
        }
        return kind;
    }

    /** Mostly one of these, now and then one beside them, seldom an odd one. */
    private static int any(int from, int to) {
        switch (RANDOM.nextInt(40)) {
            case 0: return from - 1;
            case 1: return to + 1;
            case 2: return ODD[RANDOM.nextInt(ODD.length)];
            default: return from + RANDOM.nextInt(Math.max(1, to - from + 1));
        }
    }

    private void call(int kind) {
        switch (kind) {
            case 0: frame(any(1, 8), any(1, 8), anyMaxval(), any(0, 3)); break;
            case 1: row(any(0, latest.height - 1), anyRow()); break;
            case 2: encode(); break;
            case 3: due("size()", coder.size(), code.size()); break;
            case 4: code(any(0, code.size() - 1)); break;
            case 5: poke(); break;
            case 6: cut(RANDOM.nextInt(3) == 0 ? any(0, code.size()) : code.size() - RANDOM.nextInt(2)); break;
            case 7: decode(); break;
            case 8: number(any(0, 9)); break;
            case 9: sample(any(0, latest.width - 1), any(0, latest.height - 1)); break;
            case 10: rebuilt(any(0, latest.width - 1), any(0, latest.height - 1)); break;
            case 11: context(RANDOM.nextBoolean() ? any(0, 366) : any(364, 366), any(0, 4)); break;
            default: due("runIndex()", coder.runIndex(), latest.runIndex); break;
        }
    }

    private static int anyMaxval() {
        return RANDOM.nextInt(3) == 0 ? any(3, 20) : any(3, 255);
    }

    private long anyRow() {
        int base = RANDOM.nextInt(latest.maxval + 1);
        int spread = RANDOM.nextInt(4) * latest.maxval / 6 + 1;
        long row = 0;
        for (int x = 0; x < 8; x++) {
            int value = Math.min(latest.maxval, base + RANDOM.nextInt(spread));
            // What is behind the width counts for nothing; within it, it may be too large.
            boolean isOdd = x >= latest.width || RANDOM.nextInt(200) == 0;
            row = row << 8 | (isOdd ? RANDOM.nextInt(256) : value);
        }
        return row;
    }

    private void due(String call, long got, long due) {
        run.append(call).append("; ");
        if (got != due) {
            Check.same("behind " + run.substring(Math.max(0, run.length() - 300)) + "the last", got, due);
        } else {
            Check.same(call, got, due);
        }
    }

    private void due(String call, boolean got, boolean due) {
        due(call, got ? 1 : 0, due ? 1 : 0);
    }

    private void frame(int width, int height, int maxval, int near) {
        boolean fits = width >= 1 && width <= 8 && height >= 1 && height <= 8 && maxval >= 3 && maxval <= 255
            && near >= 0 && near <= 3 && near <= maxval / 2;
        if (fits) {
            samples = new int[height][width];
            code = new ArrayList<>();
            latest = new PlainCoder(width, height, maxval, near);
        }
        due("frame(" + width + ", " + height + ", " + maxval + ", " + near + ")",
            coder.frame(width, height, maxval, near), fits);
    }

    private void row(int y, long row) {
        int[] values = new int[latest.width];
        boolean fits = y >= 0 && y < latest.height;
        for (int x = 0; x < latest.width; x++) {
            values[x] = (int) (row >> 8 * (7 - x)) & 255;
            fits &= values[x] <= latest.maxval;
        }
        if (fits) {
            samples[y] = values;
        }
        due("row(" + y + ", " + row + "L)", coder.row(y, row), fits);
    }

    private void encode() {
        latest = PlainCoder.coded(samples, latest.maxval, latest.near);
        code = new ArrayList<>(latest.code);
        due("encode()", coder.encode(), code.size());
    }

    private void code(int i) {
        due("code(" + i + ")", coder.code(i), i >= 0 && i < code.size() ? code.get(i) : -1);
    }

    private void poke() {
        int i = any(0, code.size() - 1);
        // As it is, one bit of it, or any byte: a code that is spoiled too often is never read.
        int way = RANDOM.nextInt(4);
        int was = i >= 0 && i < code.size() ? code.get(i) : 0;
        int b = way < 2 ? was : way == 2 ? was ^ 1 << RANDOM.nextInt(8) : any(0, 255);
        boolean fits = i >= 0 && i < code.size() && b >= 0 && b <= 255;
        if (fits) {
            code.set(i, b);
        }
        due("poke(" + i + ", " + b + ")", coder.poke(i, b), fits);
    }

    private void cut(int n) {
        boolean fits = n >= 0 && n <= code.size();
        if (fits) {
            code = new ArrayList<>(code.subList(0, n));
        }
        due("cut(" + n + ")", coder.cut(n), fits);
    }

    private void decode() {
        PlainCoder plain = PlainCoder.read(new ArrayList<>(code));
        if (plain == null) {
            thrown++;
            due("decode()", Codes.read(coder), -1);
            return;
        }
        read++;
        latest = plain;
        samples = new int[plain.height][];
        for (int y = 0; y < plain.height; y++) {
            samples[y] = plain.rebuilt[y].clone();
        }
        due("decode()", Codes.read(coder), plain.width * plain.height);
    }

    private void number(int what) {
        int[] all = {latest.width, latest.height, latest.maxval, latest.near, latest.range, latest.qb, latest.limit,
            latest.t[1], latest.t[2], latest.t[3]};
        due("number(" + what + ")", coder.number(what), what >= 0 && what < all.length ? all[what] : -1);
    }

    private boolean isThere(int x, int y) {
        return x >= 0 && x < latest.width && y >= 0 && y < latest.height;
    }

    private void sample(int x, int y) {
        due("sample(" + x + ", " + y + ")", coder.sample(x, y), isThere(x, y) ? samples[y][x] : -1);
    }

    private void rebuilt(int x, int y) {
        due("rebuilt(" + x + ", " + y + ")", coder.rebuilt(x, y), isThere(x, y) ? latest.rebuilt[y][x] : -1);
    }

    private void context(int q, int what) {
        boolean isThere = q >= 0 && q <= 366 && what >= 0 && what <= 4;
        due("context(" + q + ", " + what + ")", coder.context(q, what), isThere ? latest.contexts[q][what] : -1000000);
    }
}
