/** Paints pictures whose marks, signs and shifts can be told by hand. */
public final class Scene {
    /** What a dim shot (gain 1) stays below: 15 squared, 9 times, is less than the bar of 5000. */
    public static final int PLAIN = 20;
    public static final int SPOT = 220;
    /** What a mark by a spot scores, give or take a little. */
    public static final int HEIGHT = 2 * 200 * 200;

    /** The bits of a sign, such that each dot is told ahead of the one that is to be above it. */
    private static final int[] BITS = {2, 7, 1, 3, 11, 6, 0, 4, 5, 8, 9, 10};

    private Scene() {
    }

    /** Paints all dots of a picture alike. */
    public static void plain(PictureJoin x, int picture, int value) {
        int w = x.place(picture, 4);
        int h = x.place(picture, 5);
        for (int j = 0; j < h; j++) {
            for (int i = 0; i < w; i++) {
                x.dot(picture, i, j, value);
            }
        }
    }

    /**
     * A spot to the right of i, j has two like scores, at i, j and upon itself. The second is taken away
     * by a lost dot that the first does not need: a mark at i, j, of sign 0.
     */
    public static void spot(PictureJoin x, int picture, int i, int j, int value) {
        x.dot(picture, i + 1, j, value);
        x.dot(picture, i + 3, j, -1);
    }

    /** A plain patch of 5 by 5 dots with a mark in its midst, of this sign: told by 26 calls. */
    public static void patch(PictureJoin x, int picture, int i, int j, int sign) {
        int[][] dots = new int[5][5];
        for (int[] column : dots) {
            java.util.Arrays.fill(column, PLAIN);
        }
        for (int k : BITS) {
            int one = dots[k % 5][k % 3 + 1];
            if (sign != 0) {
                dots[4 - k % 4][k % 5] = one + (sign >> k & 1);
            }
        }
        dots[3][2] = SPOT;
        for (int k = 0; k < 25; k++) {
            x.dot(picture, i + k % 5 - 2, j + k / 5 - 2, dots[k % 5][k / 5]);
        }
        x.dot(picture, i + 3, j, -1);
    }
}
