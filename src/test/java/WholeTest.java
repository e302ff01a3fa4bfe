/** Promises 17 to 21: overlap, lights, seam, the whole and its extent. */
public final class WholeTest {
    private static final int U = -1000001, O = -1000002, N = -1000005;
    private static final int NONE = -6;
    private static final int[] FAR = {Integer.MIN_VALUE, Integer.MIN_VALUE + 1, -2, 1000, Integer.MAX_VALUE};
    private static final int A = 1, B = 16, C = 32, D = 256;

    public static void main(String[] args) {
        overlapAndExtent(3, 1);
        overlapAndExtent(-2, 4);
        overlapAndExtent(2, -1);
        overlapAndExtent(-1, -3);
        overlapAndExtent(0, 0);
        overlapOfOthers();
        noOverlap();
        lights();
        seam();
        seamByOneColumn();
        seamOfLostDots();
        whole();
        wholeByJoining();
        notJoined();
        refusalsOfTwo();
        refusalsOfTheWhole();
        Check.end();
    }

    private static PictureJoin dim(int pictures) {
        PictureJoin x = new PictureJoin();
        x.rules(5000, 0);
        for (int p = 0; p < pictures; p++) {
            x.shoot(20, 20, 50 * p, 70, 1);
        }
        return x;
    }

    private static void twoMarks(PictureJoin x, int picture, int i, int j, int sign, int sign2) {
        Scene.patch(x, picture, i, j, sign);
        Scene.patch(x, picture, i + 8, j, sign2);
    }

    /** Two pictures of 20 by 8, the one of 30 and the other of 40, that one dot farther right. */
    private static PictureJoin thirtyAndForty() {
        PictureJoin x = new PictureJoin();
        x.rules(5000, 0);
        for (int p = 0; p < 2; p++) {
            x.shoot(20, 8, 0, 0, 1);
            int plain = 30 + 10 * p;
            Scene.plain(x, p, plain);
            Scene.spot(x, p, 4 - p, 4, 230);
            Scene.spot(x, p, 10 - p, 4, 230);
            // bit 0 of the sign of the second mark
            x.dot(p, 12 - p, 2, plain + 1);
        }
        return x;
    }

    private static void dueOverlap(PictureJoin x, int a, int b, int... due) {
        for (int what = 0; what < 4; what++) {
            Check.due("17: overlap(" + a + ", " + b + ", " + what + ")", x.overlap(a, b, what), due[what]);
        }
    }

    private static void dueExtent(PictureJoin x, int... due) {
        for (int what = 0; what < due.length; what++) {
            Check.due("21: extent(" + what + ")", x.extent(what), due[what]);
        }
    }

    /** Each mark has a lost dot three to its right, in both pictures at the same place of the whole. */
    private static void overlapAndExtent(int dx, int dy) {
        PictureJoin x = dim(2);
        twoMarks(x, 0, 6, 7, A, B);
        twoMarks(x, 1, 6 - dx, 7 - dy, A, B);
        int width = 20 - Math.abs(dx);
        int height = 20 - Math.abs(dy);
        Check.due("14: x", x.place(1, 0), dx);
        Check.due("14: y", x.place(1, 1), dy);
        dueOverlap(x, 0, 1, Math.max(0, dx), Math.max(0, dy), width, height);
        dueOverlap(x, 1, 0, Math.max(0, dx), Math.max(0, dy), width, height);
        int places = 800 - width * height - 2;
        dueExtent(x, Math.min(0, dx), Math.min(0, dy), 19 + Math.max(0, dx), 19 + Math.max(0, dy), places);
        x.dot(0, 10, 10, -1);
        Check.due("21: lost in one of two", x.extent(4), places);
        x.dot(1, 10 - dx, 10 - dy, -1);
        Check.due("21: lost in both", x.extent(4), places - 1);
        dueExtent(x, Math.min(0, dx), Math.min(0, dy), 19 + Math.max(0, dx), 19 + Math.max(0, dy));
    }

    /** A small picture within a large one; and the overlap of two that are joined by a third. */
    private static void overlapOfOthers() {
        PictureJoin x = new PictureJoin();
        x.rules(5000, 0);
        x.shoot(20, 20, 0, 70, 1);
        x.shoot(16, 8, 0, 70, 1);
        x.shoot(16, 9, 0, 70, 1);
        twoMarks(x, 0, 5, 8, A, B);
        twoMarks(x, 1, 4, 3, A, B);
        twoMarks(x, 2, 3, 5, A, B);
        dueOverlap(x, 0, 1, 1, 5, 16, 8);
        dueOverlap(x, 0, 2, 2, 3, 16, 9);
        dueOverlap(x, 1, 2, 2, 5, 15, 7);
        dueOverlap(x, 2, 1, 2, 5, 15, 7);
        dueExtent(x, 0, 0, 19, 19, 398);
    }

    /** Three in a row, each eleven farther right. */
    private static void noOverlap() {
        PictureJoin x = dim(3);
        Scene.patch(x, 0, 15, 5, A);
        Scene.patch(x, 0, 15, 14, B);
        Scene.patch(x, 1, 4, 5, A);
        Scene.patch(x, 1, 4, 14, B);
        Scene.patch(x, 1, 15, 5, C);
        Scene.patch(x, 1, 15, 14, D);
        Scene.patch(x, 2, 4, 5, C);
        Scene.patch(x, 2, 4, 14, D);
        Check.due("14: place(2, 0)", x.place(2, 0), 22);
        dueOverlap(x, 0, 1, 11, 0, 9, 20);
        dueOverlap(x, 1, 2, 22, 0, 9, 20);
        dueOverlap(x, 0, 2, 0, 0, 0, 0);
        dueOverlap(x, 2, 0, 0, 0, 0, 0);
        for (int what = 0; what < 3; what++) {
            Check.due("18: none of both, lights(0, 2, " + what + ")", x.lights(0, 2, what), 0);
        }
        for (int row = -1; row < 3; row++) {
            Check.due("19: no OVERLAP, seam(0, 2, " + row + ")", x.seam(0, 2, row), NONE);
        }
        dueExtent(x, 0, 0, 41, 19, 42 * 20 - 4);
        Check.due("20: of 2", x.whole(41, 19, 1), 2);
        Check.due("20: of 1", x.whole(22, 19, 1), 1);
        Check.due("20: of 0", x.whole(11, 0, 1), 0);
    }

    private static void lights() {
        PictureJoin x = thirtyAndForty();
        dueOverlap(x, 0, 1, 1, 0, 19, 8);
        // 152 places, two of them lost, two spots of 230, and one dot brighter by 1
        int ofZero = 150 * 30 + 2 * 200 + 1;
        int ofOne = 150 * 40 + 2 * 190 + 1;
        Check.due("18: lights(0, 1, 0)", x.lights(0, 1, 0), ofZero);
        Check.due("18: lights(0, 1, 1)", x.lights(0, 1, 1), ofOne);
        Check.due("18: lights(0, 1, 2)", x.lights(0, 1, 2), 150);
        Check.due("18: lights(1, 0, 0)", x.lights(1, 0, 0), ofOne);
        Check.due("18: lights(1, 0, 1)", x.lights(1, 0, 1), ofZero);
        Check.due("18: lights(1, 0, 2)", x.lights(1, 0, 2), 150);
        x.dot(0, 19, 7, -1);
        Check.due("18: lost in a", x.lights(0, 1, 0), ofZero - 30);
        Check.due("18: lost in a", x.lights(0, 1, 1), ofOne - 40);
        Check.due("18: lost in a", x.lights(0, 1, 2), 149);
        x.dot(1, 0, 0, -1);
        Check.due("18: lost in b", x.lights(0, 1, 0), ofZero - 60);
        Check.due("18: lost in b", x.lights(0, 1, 1), ofOne - 80);
        Check.due("18: lost in b", x.lights(0, 1, 2), 148);
        x.dot(1, 18, 7, -1);
        Check.due("18: lost in both", x.lights(0, 1, 2), 148);
        x.dot(0, 0, 0, 255);
        x.dot(1, 19, 7, 255);
        Check.due("18: beside the OVERLAP", x.lights(0, 1, 0), ofZero - 60);
        Check.due("18: beside the OVERLAP", x.lights(0, 1, 1), ofOne - 80);
    }

    private static void dueSeam(PictureJoin x, int cost, int... columns) {
        Check.due("19: cost", x.seam(0, 1, -1), cost);
        Check.due("19: cost, the other way round", x.seam(1, 0, -1), cost);
        for (int row = 0; row < columns.length; row++) {
            Check.due("19: seam(0, 1, " + row + ")", x.seam(0, 1, row), columns[row]);
            Check.due("19: seam(1, 0, " + row + ")", x.seam(1, 0, row), columns[row]);
        }
        Check.due("19: no such row", x.seam(0, 1, columns.length), NONE);
        Check.due("19: no such row", x.seam(0, 1, -2), NONE);
    }

    private static void seam() {
        PictureJoin x = thirtyAndForty();
        // 10 a row, but 0 at the spots: columns 4 and 10 of row 4
        dueSeam(x, 70, 0, 1, 2, 3, 4, 3, 2, 1);
        x.dot(1, 18, 0, 30);
        dueSeam(x, 70, 0, 1, 2, 3, 4, 3, 2, 1);
        x.dot(1, 17, 1, 30);
        dueSeam(x, 60, 18, 17, 16, 15, 14, 13, 12, 11);
        x.dot(0, 19, 0, 29);
        dueSeam(x, 61, 18, 17, 16, 15, 14, 13, 12, 11);
        x.dot(0, 19, 0, 31);
        dueSeam(x, 61, 18, 17, 16, 15, 14, 13, 12, 11);
    }

    /** The way to the left is no dearer than that to the right, and from it the cheapest dots are two off. */
    private static void seamByOneColumn() {
        PictureJoin x = thirtyAndForty();
        x.dot(1, 15, 0, 30);
        x.dot(1, 15, 2, 30);
        x.dot(1, 17, 1, 30);
        x.dot(1, 17, 2, 30);
        dueSeam(x, 60, 15, 14, 15, 14, 13, 12, 11, 10);
    }

    private static void seamOfLostDots() {
        PictureJoin x = thirtyAndForty();
        for (int i = 0; i < 20; i++) {
            x.dot(1, i, 7, -1);
        }
        dueSeam(x, 60 + 255, 0, 1, 2, 3, 4, 3, 2, 1);
        for (int i = 0; i < 20; i++) {
            x.dot(0, i, 0, -1);
        }
        dueSeam(x, 50 + 255 + 255, 0, 1, 2, 3, 4, 3, 2, 1);
        x.dot(0, 18, 0, 40);
        dueSeam(x, 60 + 255, 17, 16, 15, 14, 13, 12, 11, 10);
        x.dot(0, 11, 7, -1);
        dueSeam(x, 60 + 255, 17, 16, 15, 14, 13, 12, 11, 10);
    }

    private static void whole() {
        PictureJoin x = thirtyAndForty();
        Check.due("20: of 0 alone", x.whole(0, 0, 0), 30);
        Check.due("20: of 0 alone", x.whole(0, 0, 1), 0);
        Check.due("20: of both, 0 first", x.whole(1, 0, 0), 30);
        Check.due("20: of both, 0 first", x.whole(1, 0, 1), 0);
        Check.due("20: of 1 alone", x.whole(20, 7, 0), 40);
        Check.due("20: of 1 alone", x.whole(20, 7, 1), 1);
        Check.due("20: lost in both", x.whole(7, 4, 0), NONE);
        Check.due("20: lost in both", x.whole(7, 4, 1), NONE);
        dueExtent(x, 0, 0, 20, 7, 21 * 8 - 2);
        x.dot(0, 1, 0, -1);
        Check.due("20: lost in 0", x.whole(1, 0, 0), 40);
        Check.due("20: lost in 0", x.whole(1, 0, 1), 1);
        x.dot(0, 0, 0, -1);
        Check.due("20: lost in 0, 1 not there", x.whole(0, 0, 1), NONE);
        x.dot(0, 0, 1, 0);
        Check.due("20: a dark dot is told", x.whole(0, 1, 0), 0);
        dueExtent(x, 0, 0, 20, 7, 21 * 8 - 3);
        int[][] none = {{-1, 0}, {21, 0}, {0, -1}, {0, 8}, {20, 8}};
        for (int[] p : none) {
            Check.due("20: whole(" + p[0] + ", " + p[1] + ", 0)", x.whole(p[0], p[1], 0), NONE);
            Check.due("20: whole(" + p[0] + ", " + p[1] + ", 1)", x.whole(p[0], p[1], 1), NONE);
        }
        for (int far : FAR) {
            Check.due("20: far x", x.whole(far, 0, 0), NONE);
            Check.due("20: far y", x.whole(0, far, 1), NONE);
        }
    }

    /** 2 is joined ahead of 1: its dots come first. */
    private static void wholeByJoining() {
        PictureJoin x = dim(3);
        twoMarks(x, 0, 6, 6, A, B);
        twoMarks(x, 2, 4, 5, A, B);
        twoMarks(x, 2, 5, 14, C, D);
        twoMarks(x, 1, 5, 13, C, D);
        // 0 at 0, 0; 2 at 2, 1; 1 at 2, 2
        Check.due("14: place(2, 3)", x.place(2, 3), 1);
        Check.due("14: place(1, 1)", x.place(1, 1), 2);
        Check.due("20: 2 ahead of 1", x.whole(20, 20, 1), 2);
        Check.due("20: 2 ahead of 1", x.whole(20, 20, 0), x.at(2, 18, 19));
        Check.due("20: 1 alone", x.whole(20, 21, 1), 1);
        Check.due("20: 1 alone", x.whole(20, 21, 0), x.at(1, 18, 19));
        x.dot(2, 18, 19, -1);
        Check.due("20: lost in 2", x.whole(20, 20, 1), 1);
        Check.due("20: lost in 2", x.whole(20, 20, 0), x.at(1, 18, 18));
        x.dot(1, 18, 18, -1);
        Check.due("20: lost in both", x.whole(20, 20, 0), NONE);
    }

    /** A picture that is not joined is no part of the whole. */
    private static void notJoined() {
        PictureJoin x = new PictureJoin();
        x.shoot(8, 8, 0, 70, 1);
        x.shoot(20, 20, 0, 70, 1);
        Check.due("20: not of 1", x.whole(9, 9, 0), NONE);
        dueExtent(x, 0, 0, 7, 7, 64);
        x.dot(0, 3, 3, -1);
        Check.due("20: not of 1", x.whole(3, 3, 1), NONE);
        dueExtent(x, 0, 0, 7, 7, 63);
        for (int i = 0; i < 8; i++) {
            x.dot(0, 0, i, -1);
        }
        dueExtent(x, 0, 0, 7, 7, 55);
    }

    private static void refusalsOfTwo() {
        PictureJoin x = new PictureJoin();
        x.shoot(8, 8, 0, 70, 1);
        x.shoot(8, 8, 0, 70, 1);
        int[][] unknown = {{0, 0}, {1, 1}, {0, 2}, {2, 0}, {0, -1}, {-1, 0}, {0, 4}, {Integer.MAX_VALUE, 0}, {0, Integer.MIN_VALUE}};
        for (int[] u : unknown) {
            String two = u[0] + ", " + u[1];
            Check.due("17: UNKNOWN, " + two, x.overlap(u[0], u[1], 0), U);
            Check.due("17: UNKNOWN ahead of OUTSIDE, " + two, x.overlap(u[0], u[1], 4), U);
            Check.due("18: UNKNOWN, " + two, x.lights(u[0], u[1], 0), U);
            Check.due("18: UNKNOWN ahead of OUTSIDE, " + two, x.lights(u[0], u[1], 3), U);
            Check.due("19: UNKNOWN, " + two, x.seam(u[0], u[1], 0), -1);
            Check.due("19: UNKNOWN ahead of NONE, " + two, x.seam(u[0], u[1], 99), -1);
        }
        int[] outside = {-1, 4, Integer.MIN_VALUE, Integer.MAX_VALUE};
        for (int what : outside) {
            Check.due("17: OUTSIDE ahead of NO", x.overlap(0, 1, what), O);
            Check.due("18: OUTSIDE ahead of NO", x.lights(0, 1, what), O);
        }
        Check.due("18: OUTSIDE ahead of NO", x.lights(0, 1, 3), O);
        for (int what = 0; what < 4; what++) {
            Check.due("17: NO", x.overlap(0, 1, what), N);
            Check.due("17: NO", x.overlap(1, 0, what), N);
        }
        for (int what = 0; what < 3; what++) {
            Check.due("18: NO", x.lights(0, 1, what), N);
            Check.due("18: NO", x.lights(1, 0, what), N);
        }
        int[] rows = {-2, -1, 0, 7, 8, Integer.MAX_VALUE, Integer.MIN_VALUE};
        for (int row : rows) {
            Check.due("19: NO ahead of NONE", x.seam(0, 1, row), -5);
            Check.due("19: NO ahead of NONE", x.seam(1, 0, row), -5);
        }
        PictureJoin y = thirtyAndForty();
        for (int far : FAR) {
            Check.due("17: far what", y.overlap(0, 1, far), O);
            Check.due("18: far what", y.lights(0, 1, far), O);
            Check.due("19: far row", y.seam(0, 1, far), NONE);
        }
    }

    private static void refusalsOfTheWhole() {
        PictureJoin x = new PictureJoin();
        Check.due("20: no PICTURES", x.whole(0, 0, 0), NONE);
        Check.due("20: no PICTURES", x.whole(0, 0, 1), NONE);
        Check.due("20: OUTSIDE without PICTURES", x.whole(0, 0, 2), -2);
        for (int what = 0; what < 5; what++) {
            Check.due("21: NO", x.extent(what), N);
        }
        Check.due("21: OUTSIDE ahead of NO", x.extent(5), O);
        Check.due("21: OUTSIDE ahead of NO", x.extent(-1), O);
        x.shoot(8, 9, 0, 0, 16);
        dueExtent(x, 0, 0, 7, 8, 72);
        int[] outside = {-1, 2, Integer.MIN_VALUE, Integer.MAX_VALUE};
        for (int what : outside) {
            Check.due("20: OUTSIDE", x.whole(0, 0, what), -2);
            Check.due("20: OUTSIDE ahead of NONE", x.whole(99, 99, what), -2);
        }
        Check.due("21: OUTSIDE", x.extent(5), O);
        Check.due("21: OUTSIDE", x.extent(-1), O);
        for (int far : FAR) {
            Check.due("21: OUTSIDE", x.extent(far), O);
        }
    }
}
