import java.util.ArrayList;
import java.util.List;

/**
 * The document's terms written a second time, as plainly as can be and apart from the program, to compare with:
 * bits are a text, coding and reading share nothing but what is learnt, and an error that is read is looked for
 * among all that could have been written.
 */
final class PlainCoder {
    static final int A = 0;
    static final int B = 1;
    static final int C = 2;
    static final int N = 3;
    static final int M = 4;

    final int width;
    final int height;
    final int maxval;
    final int near;
    final int step;
    final int range;
    final int qb;
    final int limit;
    final int[] t = new int[4];
    final int[][] rebuilt;
    final int[][] contexts = new int[367][5];
    int runIndex = 0;
    List<Integer> code = new ArrayList<>();

    private final StringBuilder bits = new StringBuilder();
    private int used = 0;
    private boolean broken = false;

    PlainCoder(int width, int height, int maxval, int near) {
        this.width = width;
        this.height = height;
        this.maxval = maxval;
        this.near = near;
        step = 2 * near + 1;
        range = Math.floorDiv(maxval + 2 * near, step) + 1;
        int power = 0;
        while (Math.pow(2, power) < range) {
            power++;
        }
        qb = power;
        int bp = 2;
        while (Math.pow(2, bp) < maxval + 1) {
            bp++;
        }
        limit = 2 * (bp + (bp > 8 ? bp : 8));
        t[0] = near + 1;
        int[] fine = {0, 2, 3, 4};
        int[] fineF = {0, 1, 4, 17};
        int[] coarse = {0, 3, 7, 21};
        for (int i = 1; i <= 3; i++) {
            int wanted = maxval >= 128
                ? fineF[i] * ((maxval + 128) / 256) + fine[i] + (2 * i + 1) * near
                : Math.max(i + 1, coarse[i] / (256 / (maxval + 1)) + (2 * i + 1) * near);
            t[i] = wanted > maxval || wanted < t[i - 1] ? t[i - 1] : wanted;
        }
        rebuilt = new int[height][width];
        for (int[] context : contexts) {
            context[A] = Math.max(2, (range + 32) / 64);
            context[N] = 1;
        }
    }

    static PlainCoder coded(int[][] samples, int maxval, int near) {
        PlainCoder plain = new PlainCoder(samples[0].length, samples.length, maxval, near);
        plain.writeAll(samples);
        return plain;
    }

    /** null if the code is not what it has to be. */
    static PlainCoder read(List<Integer> code) {
        int size = code.size();
        if (size < 8 || code.get(0) != 255 || code.get(1) != 216) {
            return null;
        }
        int width = code.get(2);
        int height = code.get(3);
        int maxval = code.get(4);
        int near = code.get(5);
        if (width < 1 || width > 8 || height < 1 || height > 8 || maxval < 3 || near > 3 || 2 * near > maxval) {
            return null;
        }
        PlainCoder plain = new PlainCoder(width, height, maxval, near);
        plain.code = code;
        return plain.readAll() ? plain : null;
    }

    private int j() {
        if (runIndex < 16) {
            return runIndex / 4;
        }
        return runIndex < 24 ? runIndex / 2 - 4 : runIndex - 16;
    }

    private int at(int x, int y) {
        if (y < 0) {
            return 0;
        }
        if (x < 0) {
            return at(0, y - 1);
        }
        return x == width ? at(width - 1, y) : rebuilt[y][x];
    }

    private boolean within(int difference) {
        return Math.abs(difference) <= near;
    }

    private boolean even(int x, int y) {
        return within(at(x, y - 1) - at(x + 1, y - 1)) && within(at(x - 1, y - 1) - at(x, y - 1))
            && within(at(x - 1, y) - at(x - 1, y - 1));
    }

    private int level(int gradient) {
        int size = Math.abs(gradient);
        int level = 0;
        if (size > near) {
            level = 1;
        }
        for (int i = 1; i <= 3; i++) {
            if (size >= t[i]) {
                level = i + 1;
            }
        }
        return Integer.signum(gradient) * level;
    }

    private int cropped(int value) {
        return value < 0 ? 0 : value > maxval ? maxval : value;
    }

    /** What a sample is written by: all but its error. */
    private final class Place {
        final boolean ends;
        final int kind;
        final int sign;
        final int foretold;
        final int[] context;
        final int k;
        final int most;

        Place(int x, int y, boolean ends) {
            this.ends = ends;
            int a = at(x - 1, y);
            int b = at(x, y - 1);
            int c = at(x - 1, y - 1);
            int d = at(x + 1, y - 1);
            if (ends) {
                kind = within(a - b) ? 1 : 0;
                sign = kind == 0 && a > b ? -1 : 1;
                foretold = kind == 1 ? a : b;
                context = contexts[365 + kind];
            } else {
                kind = 0;
                int[] q = {level(d - b), level(b - c), level(c - a)};
                int first = q[0] != 0 ? q[0] : q[1] != 0 ? q[1] : q[2];
                sign = first < 0 ? -1 : 1;
                context = contexts[sign * q[0] * 81 + sign * q[1] * 9 + sign * q[2]];
                int[] three = {a, b, a + b - c};
                java.util.Arrays.sort(three);
                foretold = cropped(three[1] + sign * context[C]);
            }
            int wanted = context[A] + (ends ? kind * (context[N] / 2) : 0);
            int power = 0;
            while (context[N] * Math.pow(2, power) < wanted) {
                power++;
            }
            k = power;
            most = (ends ? limit - j() - 1 : limit) - qb - 1;
        }

        int m(int e) {
            if (ends) {
                boolean flip = k == 0 && e > 0 && 2 * context[M] < context[N]
                    || e < 0 && 2 * context[M] >= context[N]
                    || e < 0 && k != 0;
                return 2 * Math.abs(e) - kind - (flip ? 1 : 0);
            }
            if (near == 0 && k == 0 && 2 * context[B] <= -context[N]) {
                return e >= 0 ? 2 * e + 1 : -2 * (e + 1);
            }
            return e >= 0 ? 2 * e : -2 * e - 1;
        }

        void learn(int e) {
            context[A] += ends ? (m(e) + 1 - kind) / 2 : Math.abs(e);
            if (ends) {
                context[M] += e < 0 ? 1 : 0;
            } else {
                context[B] += e * step;
            }
            if (context[N] == 64) {
                for (int what : new int[] {A, B, N, M}) {
                    context[what] = Math.floorDiv(context[what], 2);
                }
            }
            context[N]++;
            if (!ends) {
                correct();
            } else if (runIndex > 0) {
                runIndex--;
            }
        }

        private void correct() {
            if (context[B] <= -context[N]) {
                context[B] += context[N];
                if (context[C] > -128) {
                    context[C]--;
                }
                if (context[B] <= -context[N]) {
                    context[B] = 1 - context[N];
                }
            } else if (context[B] > 0) {
                context[B] -= context[N];
                if (context[C] < 127) {
                    context[C]++;
                }
                if (context[B] > 0) {
                    context[B] = 0;
                }
            }
        }
    }

    private void writeAll(int[][] samples) {
        for (int y = 0; y < height; y++) {
            int x = 0;
            while (x < width) {
                if (!even(x, y)) {
                    writeSample(samples[y][x], x, y, false);
                    x++;
                    continue;
                }
                int a = at(x - 1, y);
                int end = x;
                while (end < width && within(samples[y][end] - a)) {
                    rebuilt[y][end] = a;
                    end++;
                }
                writeRun(end - x, end == width);
                if (end < width) {
                    writeSample(samples[y][end], end, y, true);
                }
                x = end + 1;
            }
        }
        code.addAll(List.of(255, 216, width, height, maxval, near));
        bitsToBytes();
        code.addAll(List.of(255, 217));
    }

    private void writeRun(int length, boolean toTheEnd) {
        int left = length;
        while (left >= Math.pow(2, j())) {
            bits.append('1');
            left -= (int) Math.pow(2, j());
            runIndex = Math.min(31, runIndex + 1);
        }
        if (!toTheEnd) {
            bits.append('0').append(binary(left, j()));
        } else if (left > 0) {
            bits.append('1');
        }
    }

    private void writeSample(int value, int x, int y, boolean ends) {
        Place place = new Place(x, y, ends);
        int e = place.sign * (value - place.foretold);
        e = e > 0 ? (e + near) / step : -((near - e) / step);
        rebuilt[y][x] = cropped(place.foretold + place.sign * e * step);
        if (e < 0) {
            e += range;
        }
        if (e >= (range + 1) / 2) {
            e -= range;
        }
        int m = place.m(e);
        int high = m / (int) Math.pow(2, place.k);
        if (high < place.most) {
            bits.append("0".repeat(high)).append('1').append(binary(m, place.k));
        } else {
            bits.append("0".repeat(place.most)).append('1').append(binary(m - 1, qb));
        }
        place.learn(e);
    }

    /** The lowest so many bits of a number. */
    private static String binary(int value, int count) {
        String all = "0".repeat(32) + Integer.toBinaryString(value);
        return all.substring(all.length() - count);
    }

    private void bitsToBytes() {
        String left = bits.toString();
        int last = 0;
        while (!left.isEmpty()) {
            int count = Math.min(left.length(), last == 255 ? 7 : 8);
            String piece = (last == 255 ? "0" : "") + left.substring(0, count);
            left = left.substring(count);
            last = Integer.parseInt((piece + "0000000").substring(0, 8), 2);
            code.add(last);
        }
        if (last == 255) {
            code.add(0);
        }
    }

    private boolean readAll() {
        bytesToBits();
        for (int y = 0; y < height && !broken; y++) {
            int x = 0;
            while (x < width && !broken) {
                boolean ends = even(x, y);
                if (ends) {
                    int a = at(x - 1, y);
                    int length = readRun(width - x);
                    for (int i = 0; i < length; i++) {
                        rebuilt[y][x + i] = a;
                    }
                    x += length;
                }
                if (x < width && !broken) {
                    readSample(x, y, ends);
                    x++;
                }
            }
        }
        return !broken && endsWell();
    }

    private void bytesToBits() {
        int last = 0;
        for (int i = 6; i < code.size() - 2; i++) {
            if (last == 255 && code.get(i) >= 128) {
                return;
            }
            bits.append(binary(code.get(i), last == 255 ? 7 : 8));
            last = code.get(i);
        }
    }

    private int bit() {
        if (used == bits.length()) {
            broken = true;
            return 1;
        }
        used++;
        return bits.charAt(used - 1) - '0';
    }

    private int bits(int count) {
        int value = 0;
        for (int i = 0; i < count; i++) {
            value = value * 2 + bit();
        }
        return value;
    }

    private int readRun(int room) {
        int length = 0;
        while (length < room && !broken) {
            int stretch = (int) Math.pow(2, j());
            if (bit() == 0) {
                int rest = bits(j());
                broken |= length + rest >= room;
                return broken ? 0 : length + rest;
            }
            if (stretch > room - length) {
                return room;
            }
            length += stretch;
            runIndex = Math.min(31, runIndex + 1);
        }
        return length;
    }

    private void readSample(int x, int y, boolean ends) {
        Place place = new Place(x, y, ends);
        int zeros = 0;
        while (!broken && bit() == 0) {
            zeros++;
        }
        broken |= zeros > place.most;
        if (broken) {
            return;
        }
        int m = zeros == place.most ? bits(qb) + 1 : zeros * (int) Math.pow(2, place.k) + bits(place.k);
        for (int e = -(range / 2); e < (range + 1) / 2; e++) {
            if (place.m(e) == m && !broken) {
                rebuilt[y][x] = readValue(place.foretold + place.sign * e * step);
                place.learn(e);
                return;
            }
        }
        broken = true;
    }

    private int readValue(int value) {
        int turned = value;
        if (value < -near) {
            turned = value + range * step;
        }
        if (value > maxval + near) {
            turned = value - range * step;
        }
        return cropped(turned);
    }

    private boolean endsWell() {
        // The code that ends here is the one that the bits read so far and the numbers would give.
        PlainCoder same = new PlainCoder(width, height, maxval, near);
        same.bits.append(bits, 0, used);
        same.code.addAll(code.subList(0, 6));
        same.bitsToBytes();
        same.code.addAll(List.of(255, 217));
        return same.code.equals(code);
    }
}
