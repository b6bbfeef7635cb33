/** Promises 11 and 12: which places sample and rebuilt have. */
public final class PlacesTest {
    public static void main(String[] args) {
        everySize();
        farAway();
        Check.end();
    }

    private static int[][] numbered(int width, int height) {
        int[][] samples = new int[height][width];
        for (int y = 0; y < height; y++) {
            for (int x = 0; x < width; x++) {
                samples[y][x] = 10 + 29 * y + 3 * x;
            }
        }
        return samples;
    }

    // "The sample in a column and row; BAD when there is none": the first, the last and just outside.
    private static void everySize() {
        for (int width = 1; width <= 8; width++) {
            for (int height = 1; height <= 8; height++) {
                GradientCoder coder = Face.encoded(255, 0, numbered(width, height));
                for (int y = -1; y <= 8; y++) {
                    for (int x = -1; x <= 8; x++) {
                        boolean isThere = x >= 0 && x < width && y >= 0 && y < height;
                        int due = isThere ? 10 + 29 * y + 3 * x : -1;
                        Check.same("sample(" + x + ", " + y + ")", coder.sample(x, y), due);
                        Check.same("rebuilt(" + x + ", " + y + ")", coder.rebuilt(x, y), due);
                    }
                }
            }
        }
    }

    private static void farAway() {
        GradientCoder coder = Face.encoded(255, 0, numbered(8, 8));
        for (int odd : new int[] {Integer.MIN_VALUE, Integer.MIN_VALUE + 1, -256, 64, 256, Integer.MAX_VALUE}) {
            for (int[] place : new int[][] {{odd, 0}, {0, odd}, {odd, odd}}) {
                Check.same("sample far away", coder.sample(place[0], place[1]), -1);
                Check.same("rebuilt far away", coder.rebuilt(place[0], place[1]), -1);
            }
        }
    }
}
