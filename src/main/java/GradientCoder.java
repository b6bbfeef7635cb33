import java.util.Arrays;

/** Small grey pictures and their code, written and read back; the document is ../shared/DOC.md. */
public final class GradientCoder {
    public static final int BAD = -1;

    private static final int NO_CONTEXT = -1000000;

    // What the face answers from is the coding's own. A reading works on its own picture, contexts and
    // rebuilt values, which are taken over when it has ended well: what throws leaves everything as it was.
    private final Coding coding;
    private final Reading reading;

    public GradientCoder() {
        coding = new Coding();
        reading = new Reading();
    }

    public boolean frame(int width, int height, int maxval, int near) {
        if (!Picture.fits(width, height, maxval, near)) {
            return false;
        }
        coding.beginPicture(width, height, maxval, near);
        return true;
    }

    public boolean row(int y, long samples) {
        if (y < 0 || y >= coding.picture.height) {
            return false;
        }
        return coding.takeRow(y, samples);
    }

    public int encode() {
        coding.writeHead();
        coding.overAll();
        coding.writer.writeEnd();
        return coding.writer.size;
    }

    public int size() {
        return coding.writer.size;
    }

    public int code(int i) {
        return hasByte(i) ? coding.writer.bytes[i] : BAD;
    }

    public boolean poke(int i, int b) {
        if (!hasByte(i) || b < 0 || b > 255) {
            return false;
        }
        coding.writer.bytes[i] = b;
        return true;
    }

    public boolean cut(int n) {
        if (n < 0 || n > coding.writer.size) {
            return false;
        }
        coding.writer.size = n;
        return true;
    }

    public int decode() throws IllegalArgumentException {
        reading.readHead(coding.writer);
        reading.overAll();
        reading.reader.readEnd();
        coding.takeOver(reading);
        return coding.picture.width * coding.picture.height;
    }

    public int number(int what) {
        Picture picture = coding.picture;
        switch (what) {
            case 0: return picture.width;
            case 1: return picture.height;
            case 2: return picture.maxval;
            case 3: return picture.near;
            case 4: return picture.range;
            case 5: return picture.qb;
            case 6: return picture.limit;
            case 7: return picture.t1;
            case 8: return picture.t2;
            case 9: return picture.t3;
            default: return BAD;
        }
    }

    public int sample(int x, int y) {
        return coding.picture.hasPlace(x, y) ? coding.samples[Picture.place(x, y)] : BAD;
    }

    public int rebuilt(int x, int y) {
        return coding.picture.hasPlace(x, y) ? coding.rebuilt[Picture.place(x, y)] : BAD;
    }

    public int context(int q, int what) {
        if (q < 0 || q >= Contexts.COUNT) {
            return NO_CONTEXT;
        }
        Contexts contexts = coding.contexts;
        switch (what) {
            case 0: return contexts.a[q];
            case 1: return contexts.b[q];
            case 2: return contexts.c[q];
            case 3: return contexts.n[q];
            case 4: return contexts.m[q];
            default: return NO_CONTEXT;
        }
    }

    public int runIndex() {
        return coding.contexts.runIndex;
    }

    private boolean hasByte(int i) {
        return i >= 0 && i < coding.writer.size;
    }

    /** The numbers of a picture, and the sums that need nothing but them. */
    private static final class Picture {
        static final int MAX_SIDE = 8;
        static final int MAX_SAMPLES = MAX_SIDE * MAX_SIDE;

        int width;
        int height;
        int maxval;
        int near;
        int step;
        int range;
        int qb;
        int limit;
        int t1;
        int t2;
        int t3;

        Picture() {
            become(1, 1, 255, 0);
        }

        static boolean fits(int width, int height, int maxval, int near) {
            return width >= 1 && width <= MAX_SIDE
                && height >= 1 && height <= MAX_SIDE
                && maxval >= 3 && maxval <= 255
                && near >= 0 && near <= 3 && near <= maxval / 2;
        }

        static int place(int x, int y) {
            return y * MAX_SIDE + x;
        }

        void become(int newWidth, int newHeight, int newMaxval, int newNear) {
            width = newWidth;
            height = newHeight;
            maxval = newMaxval;
            near = newNear;
            step = 2 * near + 1;
            range = (maxval + 2 * near) / step + 1;
            qb = leastPower(0, range);
            int bp = leastPower(2, maxval + 1);
            limit = 2 * (bp + Math.max(8, bp));
            if (maxval >= 128) {
                becomeFine((maxval + 128) / 256);
            } else {
                becomeCoarse(256 / (maxval + 1));
            }
        }

        private void becomeFine(int f) {
            t1 = clamp(f + 2 + 3 * near, near + 1);
            t2 = clamp(4 * f + 3 + 5 * near, t1);
            t3 = clamp(17 * f + 4 + 7 * near, t2);
        }

        private void becomeCoarse(int f) {
            t1 = clamp(Math.max(2, 3 / f + 3 * near), near + 1);
            t2 = clamp(Math.max(3, 7 / f + 5 * near), t1);
            t3 = clamp(Math.max(4, 21 / f + 7 * near), t2);
        }

        private int clamp(int i, int j) {
            return i > maxval || i < j ? j : i;
        }

        private static int leastPower(int from, int atLeast) {
            int power = from;
            while (power < 30 && (1 << power) < atLeast) {
                power++;
            }
            return power;
        }

        boolean hasPlace(int x, int y) {
            return x >= 0 && x < width && y >= 0 && y < height;
        }

        boolean isNear(int difference) {
            return difference >= -near && difference <= near;
        }

        int bounded(int value) {
            return Math.max(0, Math.min(maxval, value));
        }

        /** The q of a gradient. */
        int level(int gradient) {
            if (gradient <= -t3) return -4;
            if (gradient <= -t2) return -3;
            if (gradient <= -t1) return -2;
            if (gradient < -near) return -1;
            if (gradient <= near) return 0;
            if (gradient < t1) return 1;
            if (gradient < t2) return 2;
            if (gradient < t3) return 3;
            return 4;
        }

        // Java rounds towards 0, so only numbers that are not below 0 are divided.
        int divided(int e) {
            return e > 0 ? (e + near) / step : -((near - e) / step);
        }

        int reduced(int e) {
            int lifted = e < 0 ? e + range : e;
            return lifted >= (range + 1) / 2 ? lifted - range : lifted;
        }

        boolean isReduced(int e) {
            return e >= -(range / 2) && e < (range + 1) / 2;
        }

        /** Takes back what reducing did to a rebuilt value. */
        int unreduced(int value) {
            if (value < -near) {
                return value + range * step;
            }
            return value > maxval + near ? value - range * step : value;
        }
    }

    /** What was wrong before in the same surroundings, and the run index. */
    private static final class Contexts {
        static final int COUNT = 367;
        static final int FIRST_END = 365;

        private static final int N_MAX = 64;
        private static final int RUN_INDEX_MAX = 31;
        private static final int[] J = {
            0, 0, 0, 0, 1, 1, 1, 1, 2, 2, 2, 2, 3, 3, 3, 3,
            4, 4, 5, 5, 6, 6, 7, 7, 8, 9, 10, 11, 12, 13, 14, 15
        };

        final int[] a = new int[COUNT];
        final int[] b = new int[COUNT];
        final int[] c = new int[COUNT];
        final int[] n = new int[COUNT];
        final int[] m = new int[COUNT];
        int runIndex;

        void restart(int range) {
            Arrays.fill(a, Math.max(2, (range + 32) / 64));
            Arrays.fill(b, 0);
            Arrays.fill(c, 0);
            Arrays.fill(n, 1);
            Arrays.fill(m, 0);
            runIndex = 0;
        }

        void takeOver(Contexts other) {
            System.arraycopy(other.a, 0, a, 0, COUNT);
            System.arraycopy(other.b, 0, b, 0, COUNT);
            System.arraycopy(other.c, 0, c, 0, COUNT);
            System.arraycopy(other.n, 0, n, 0, COUNT);
            System.arraycopy(other.m, 0, m, 0, COUNT);
            runIndex = other.runIndex;
        }

        int j() {
            return J[runIndex];
        }

        void raiseRunIndex() {
            if (runIndex < RUN_INDEX_MAX) {
                runIndex++;
            }
        }

        void lowerRunIndex() {
            if (runIndex > 0) {
                runIndex--;
            }
        }

        int kOfRegular(int q) {
            return leastK(q, a[q]);
        }

        int kOfEnd(int q) {
            return leastK(q, a[q] + (q - FIRST_END) * (n[q] / 2));
        }

        private int leastK(int q, int atLeast) {
            int k = 0;
            while (k < 24 && (n[q] << k) < atLeast) {
                k++;
            }
            return k;
        }

        boolean leansDown(int q) {
            return 2 * b[q] <= -n[q];
        }

        boolean isMostlyBelow(int q) {
            return 2 * m[q] >= n[q];
        }

        void learnRegular(int q, int e, int step) {
            b[q] += e * step;
            a[q] += Math.abs(e);
            if (n[q] == N_MAX) {
                a[q] >>= 1;
                // B may be below 0, and a shift rounds down there too.
                b[q] >>= 1;
                n[q] >>= 1;
            }
            n[q]++;
            if (b[q] <= -n[q]) {
                correctDown(q);
            } else if (b[q] > 0) {
                correctUp(q);
            }
        }

        private void correctDown(int q) {
            b[q] = Math.max(b[q] + n[q], 1 - n[q]);
            c[q] = Math.max(c[q] - 1, -128);
        }

        private void correctUp(int q) {
            b[q] = Math.min(b[q] - n[q], 0);
            c[q] = Math.min(c[q] + 1, 127);
        }

        void learnEnd(int q, int e, int written) {
            if (e < 0) {
                m[q]++;
            }
            a[q] += (written + 1 - (q - FIRST_END)) / 2;
            if (n[q] == N_MAX) {
                a[q] >>= 1;
                n[q] >>= 1;
                m[q] >>= 1;
            }
            n[q]++;
        }
    }

    /** Errors as numbers that are not below 0, and back. */
    private static final class Folding {
        static int foldRegular(int e, boolean mirrored) {
            if (mirrored) {
                return e >= 0 ? 2 * e + 1 : -2 * (e + 1);
            }
            return e >= 0 ? 2 * e : -2 * e - 1;
        }

        static int unfoldRegular(int m, boolean mirrored) {
            boolean isOdd = (m & 1) == 1;
            if (mirrored) {
                return isOdd ? m / 2 : -(m / 2) - 1;
            }
            return isOdd ? -(m / 2) - 1 : m / 2;
        }

        // FLIP is 1 for the errors of one side of 0 alone: the lower one if flipsBelow, else the upper one.
        static int foldEnd(int e, int t, boolean flipsBelow) {
            int flip = e != 0 && (e < 0) == flipsBelow ? 1 : 0;
            return 2 * Math.abs(e) - t - flip;
        }

        static int unfoldEnd(int m, int t, boolean flipsBelow) {
            int flip = (m + t) & 1;
            int absolute = (m + t + flip) / 2;
            return (flip == 1) == flipsBelow ? -absolute : absolute;
        }
    }

    /** The way over all samples that coding and reading share: what is foretold, and what is learnt. */
    private abstract static class Pass {
        final Picture picture = new Picture();
        final Contexts contexts = new Contexts();
        final int[] rebuilt = new int[Picture.MAX_SAMPLES];

        int a;
        int b;
        int c;
        int d;
        int sign;
        int foretold;

        /** Carries the length of a run that begins at a place with so many samples left in its row. */
        abstract int carryRun(int place, int left);

        /** Carries the error of a regular sample and sets its rebuilt value: the reduced error. */
        abstract int carryRegular(int place, int k, boolean mirrored);

        /** Carries the error of a sample that ends a run and sets its rebuilt value: the reduced error. */
        abstract int carryEnd(int place, int t, int k, boolean flipsBelow);

        final void overAll() {
            contexts.restart(picture.range);
            for (int y = 0; y < picture.height; y++) {
                boolean inRun = false;
                int runLeft = 0;
                for (int x = 0; x < picture.width; x++) {
                    int place = Picture.place(x, y);
                    lookAround(x, y);
                    if (!inRun && isEven()) {
                        inRun = true;
                        runLeft = carryRun(place, picture.width - x);
                    }
                    if (!inRun) {
                        overRegular(place);
                    } else if (runLeft > 0) {
                        runLeft--;
                        rebuilt[place] = a;
                    } else {
                        overEnd(place);
                        inRun = false;
                    }
                }
            }
        }

        private void lookAround(int x, int y) {
            b = rebuiltOrNothing(x, y - 1);
            a = x > 0 ? rebuiltOrNothing(x - 1, y) : b;
            // What column 0 had to its left in the row above was the value above it there.
            c = x > 0 ? rebuiltOrNothing(x - 1, y - 1) : rebuiltOrNothing(x, y - 2);
            d = x < picture.width - 1 ? rebuiltOrNothing(x + 1, y - 1) : b;
        }

        private int rebuiltOrNothing(int x, int y) {
            return y < 0 ? 0 : rebuilt[Picture.place(x, y)];
        }

        private boolean isEven() {
            return picture.isNear(b - d) && picture.isNear(c - b) && picture.isNear(a - c);
        }

        private void overRegular(int place) {
            int signed = signedContext();
            sign = signed < 0 ? -1 : 1;
            int q = Math.abs(signed);
            foretold = picture.bounded(foretoldByNeighbours() + sign * contexts.c[q]);
            int k = contexts.kOfRegular(q);
            boolean mirrored = picture.near == 0 && k == 0 && contexts.leansDown(q);
            int e = carryRegular(place, k, mirrored);
            contexts.learnRegular(q, e, picture.step);
        }

        // No q is more than 4 from 0, so the first that is not 0 gives the sum its sign.
        private int signedContext() {
            return 81 * picture.level(d - b) + 9 * picture.level(b - c) + picture.level(c - a);
        }

        private int foretoldByNeighbours() {
            int lesser = Math.min(a, b);
            int greater = Math.max(a, b);
            if (c >= greater) {
                return lesser;
            }
            return c <= lesser ? greater : a + b - c;
        }

        private void overEnd(int place) {
            int t = picture.isNear(a - b) ? 1 : 0;
            foretold = t == 1 ? a : b;
            sign = t == 0 && a > b ? -1 : 1;
            int q = Contexts.FIRST_END + t;
            int k = contexts.kOfEnd(q);
            boolean flipsBelow = k != 0 || contexts.isMostlyBelow(q);
            int e = carryEnd(place, t, k, flipsBelow);
            contexts.learnEnd(q, e, Folding.foldEnd(e, t, flipsBelow));
            contexts.lowerRunIndex();
        }

        final int limitOfEnd() {
            return picture.limit - contexts.j() - 1;
        }
    }

    /** From samples to the code. */
    private static final class Coding extends Pass {
        final int[] samples = new int[Picture.MAX_SAMPLES];
        final Writer writer = new Writer();

        Coding() {
            contexts.restart(picture.range);
        }

        void beginPicture(int width, int height, int maxval, int near) {
            picture.become(width, height, maxval, near);
            contexts.restart(picture.range);
            Arrays.fill(samples, 0);
            Arrays.fill(rebuilt, 0);
            writer.size = 0;
        }

        /** False, and no sample is changed, if one is above MAXVAL. */
        boolean takeRow(int y, long row) {
            for (int x = 0; x < picture.width; x++) {
                if (sampleIn(row, x) > picture.maxval) {
                    return false;
                }
            }
            for (int x = 0; x < picture.width; x++) {
                samples[Picture.place(x, y)] = sampleIn(row, x);
            }
            return true;
        }

        private static int sampleIn(long row, int x) {
            return (int) (row >>> (56 - 8 * x)) & 255;
        }

        void takeOver(Reading read) {
            Picture its = read.picture;
            picture.become(its.width, its.height, its.maxval, its.near);
            contexts.takeOver(read.contexts);
            System.arraycopy(read.rebuilt, 0, rebuilt, 0, Picture.MAX_SAMPLES);
            System.arraycopy(read.rebuilt, 0, samples, 0, Picture.MAX_SAMPLES);
        }

        void writeHead() {
            writer.restart();
            writer.writeByte(255);
            writer.writeByte(216);
            writer.writeByte(picture.width);
            writer.writeByte(picture.height);
            writer.writeByte(picture.maxval);
            writer.writeByte(picture.near);
        }

        int carryRun(int place, int left) {
            int length = 0;
            while (length < left && picture.isNear(samples[place + length] - a)) {
                length++;
            }
            int rest = length;
            while (rest >= 1 << contexts.j()) {
                writer.writeBits(1, 1);
                rest -= 1 << contexts.j();
                contexts.raiseRunIndex();
            }
            if (length < left) {
                writer.writeBits(0, 1);
                writer.writeBits(rest, contexts.j());
            } else if (rest > 0) {
                writer.writeBits(1, 1);
            }
            return length;
        }

        int carryRegular(int place, int k, boolean mirrored) {
            int e = takeError(place);
            writer.writeNumber(Folding.foldRegular(e, mirrored), k, picture.limit, picture.qb);
            return e;
        }

        int carryEnd(int place, int t, int k, boolean flipsBelow) {
            int e = takeError(place);
            writer.writeNumber(Folding.foldEnd(e, t, flipsBelow), k, limitOfEnd(), picture.qb);
            return e;
        }

        private int takeError(int place) {
            int e = picture.divided(sign * (samples[place] - foretold));
            rebuilt[place] = picture.bounded(foretold + sign * e * picture.step);
            return picture.reduced(e);
        }
    }

    /** From the code to rebuilt values. */
    private static final class Reading extends Pass {
        final Reader reader = new Reader();

        void readHead(Writer written) {
            reader.open(written.bytes, written.size);
            int[] head = reader.bytes;
            if (head[0] != 255 || head[1] != 216) {
                throw new IllegalArgumentException("the code does not begin with 255, 216");
            }
            if (!Picture.fits(head[2], head[3], head[4], head[5])) {
                throw new IllegalArgumentException("a number of the picture is out of its bounds");
            }
            picture.become(head[2], head[3], head[4], head[5]);
        }

        int carryRun(int place, int left) {
            int length = 0;
            while (length < left) {
                int j = contexts.j();
                if (reader.readBit() == 0) {
                    return length + readRest(j, left - length);
                }
                if (1 << j <= left - length) {
                    length += 1 << j;
                    contexts.raiseRunIndex();
                } else {
                    length = left;
                }
            }
            return length;
        }

        private int readRest(int j, int left) {
            int rest = reader.readBits(j);
            if (rest >= left) {
                throw new IllegalArgumentException("a run leaves no sample for its end");
            }
            return rest;
        }

        int carryRegular(int place, int k, boolean mirrored) {
            int m = reader.readNumber(k, picture.limit, picture.qb);
            int e = Folding.unfoldRegular(m, mirrored);
            rebuild(place, e);
            return e;
        }

        int carryEnd(int place, int t, int k, boolean flipsBelow) {
            int m = reader.readNumber(k, limitOfEnd(), picture.qb);
            int e = Folding.unfoldEnd(m, t, flipsBelow);
            rebuild(place, e);
            return e;
        }

        private void rebuild(int place, int e) {
            if (!picture.isReduced(e)) {
                throw new IllegalArgumentException("an error is out of its bounds");
            }
            rebuilt[place] = picture.bounded(picture.unreduced(foretold + sign * e * picture.step));
        }
    }

    /** The bytes of the code, and bits put into them. */
    private static final class Writer {
        // A sample takes some LIMIT + 1 bits at most, 33: 64 of them with all their stuffed bits, the head
        // and the end stay under 320 bytes.
        static final int MAX_BYTES = 512;

        final int[] bytes = new int[MAX_BYTES];
        int size;
        private int bitsFree;

        void restart() {
            size = 0;
            bitsFree = 0;
        }

        void writeByte(int b) {
            if (size < MAX_BYTES) {
                bytes[size] = b;
                size++;
            }
        }

        private boolean endsWith255() {
            return size > 0 && bytes[size - 1] == 255;
        }

        void writeBits(int value, int count) {
            for (int i = count - 1; i >= 0; i--) {
                if (bitsFree == 0) {
                    bitsFree = endsWith255() ? 7 : 8;
                    writeByte(0);
                }
                bitsFree--;
                bytes[size - 1] |= (value >> i & 1) << bitsFree;
            }
        }

        void writeNumber(int m, int k, int limit, int qb) {
            int most = limit - qb - 1;
            if (m >> k < most) {
                // 1 in so many bits: the bits 0 and the bit 1 behind them.
                writeBits(1, (m >> k) + 1);
                writeBits(m, k);
            } else {
                writeBits(1, most + 1);
                writeBits(m - 1, qb);
            }
        }

        // A byte that has begun was 0 at first, so it is filled up already.
        void writeEnd() {
            if (endsWith255()) {
                writeByte(0);
            }
            writeByte(255);
            writeByte(217);
        }
    }

    /** A copy of the code, and bits taken from it. */
    private static final class Reader {
        private static final int HEAD = 6;
        private static final int END = 2;

        final int[] bytes = new int[Writer.MAX_BYTES];
        private int end;
        private int next;
        private int bitsLeft;

        void open(int[] written, int size) {
            if (size < HEAD + END) {
                throw new IllegalArgumentException("the code is too short");
            }
            System.arraycopy(written, 0, bytes, 0, size);
            end = size - END;
            next = HEAD;
            bitsLeft = 0;
        }

        int readBit() {
            if (bitsLeft == 0) {
                boolean isStuffed = bytes[next - 1] == 255;
                if (next >= end || isStuffed && bytes[next] > 127) {
                    throw new IllegalArgumentException("there are no more bits");
                }
                bitsLeft = isStuffed ? 7 : 8;
                next++;
            }
            bitsLeft--;
            return bytes[next - 1] >> bitsLeft & 1;
        }

        int readBits(int count) {
            int value = 0;
            for (int i = 0; i < count; i++) {
                value = 2 * value + readBit();
            }
            return value;
        }

        int readNumber(int k, int limit, int qb) {
            int most = limit - qb - 1;
            int zeros = 0;
            while (zeros <= most && readBit() == 0) {
                zeros++;
            }
            if (zeros > most) {
                throw new IllegalArgumentException("too many bits 0 come before a bit 1");
            }
            return zeros < most ? (zeros << k) + readBits(k) : readBits(qb) + 1;
        }

        void readEnd() {
            if ((bytes[next - 1] & (1 << bitsLeft) - 1) != 0) {
                throw new IllegalArgumentException("a bit that is left is not 0");
            }
            if (bytes[next - 1] == 255) {
                if (bytes[next] != 0) {
                    throw new IllegalArgumentException("the last byte is 255 and no 0 follows");
                }
                next++;
            }
            if (next != end || bytes[end] != 255 || bytes[end + 1] != 217) {
                throw new IllegalArgumentException("the code does not end with 255, 217");
            }
        }
    }
}
