/** Promises 1 to 8 and 22: a new object, the world, pictures, dots, rules, what is told. */
public final class PicturesTest {
    private static final int U = -1000001, O = -1000002, N = -1000005;
    private static final int[] FAR = {Integer.MIN_VALUE, Integer.MIN_VALUE + 1, Integer.MAX_VALUE - 1, Integer.MAX_VALUE};

    public static void main(String[] args) {
        newObject();
        seed();
        light();
        shoot();
        shootRefuses();
        clear();
        dot();
        dotRefuses();
        at();
        rules();
        told();
        Check.end();
    }

    private static void newObject() {
        PictureJoin x = new PictureJoin();
        Check.due("1: told(0)", x.told(0), 0);
        Check.due("1: told(1)", x.told(1), 5000);
        Check.due("1: told(2)", x.told(2), 2);
        Check.due("1: told(3)", x.told(3), 0);
        Check.due("1: marks(0)", x.marks(0), -1);
        Check.due("1: mark(0, 0, 0)", x.mark(0, 0, 0), -1);
        Check.due("1: match(0, 0, 1)", x.match(0, 0, 1), -1);
        Check.due("1: score(0, 0, 0)", x.score(0, 0, 0), -1);
        Check.due("1: at(0, 0, 0)", x.at(0, 0, 0), U);
        Check.due("1: dot(0, 0, 0, 0)", x.dot(0, 0, 0, 0), U);
        Check.due("1: place(0, 4)", x.place(0, 4), U);
        Check.due("1: joined()", x.joined(), 0);
        Check.due("1: open()", x.open(), 0);
        Check.due("1: whole(0, 0, 0)", x.whole(0, 0, 0), -6);
        Check.due("1: extent(0)", x.extent(0), N);
        Check.due("1: clear()", x.clear(), 0);
        PictureJoin y = new PictureJoin();
        y.seed(5);
        y.shoot(8, 8, 0, 0, 16);
        Check.due("1: objects apart, seed", x.told(3), 0);
        Check.due("1: objects apart, pictures", x.told(0), 0);
    }

    private static void seed() {
        PictureJoin x = new PictureJoin();
        Check.due("2: seed(77)", x.seed(77), 0);
        x.shoot(8, 8, 4, 5, 16);
        int dot = x.at(0, 3, 3);
        Check.due("2: the dot is lit by seed 77", dot, x.light(7, 8));
        Check.due("2: seed(MIN)", x.seed(Integer.MIN_VALUE), 77);
        Check.due("2: seed(-1)", x.seed(-1), Integer.MIN_VALUE);
        Check.due("2: seed(MAX)", x.seed(Integer.MAX_VALUE), -1);
        Check.due("2: told(3)", x.told(3), Integer.MAX_VALUE);
        Check.due("2: pictures stay", x.told(0), 1);
        Check.due("2: dots stay", x.at(0, 3, 3), dot);
    }

    /** The lights were worked out apart from any Java, with integers that do not wrap, cut to 32 bits. */
    private static void light() {
        int[][] lights = {
            // seed, x, y, light
            {0, 0, 0, 0}, {0, 2, 2, 0}, {0, 3, 0, 142}, {0, 0, 3, 222},
            {0, 2000, 2000, 174}, {0, 2000, 0, 37}, {0, 0, 2000, 26}, {1, 0, 0, 46},
            {77, 100, 100, 239}, {77, 1999, 3, 228}, {-5, 300, 40, 182}, {-1, 5, 1000, 215},
            {2147483647, 1234, 567, 176}, {-2147483648, 666, 1313, 240}, {123456789, 2000, 1, 32},
        };
        PictureJoin x = new PictureJoin();
        for (int[] l : lights) {
            x.seed(l[0]);
            Check.due("3: seed " + l[0] + ", light(" + l[1] + ", " + l[2] + ")", x.light(l[1], l[2]), l[3]);
        }
        x.seed(3);
        Check.due("3: one block of nine places", x.light(11, 14), x.light(9, 12));
        int[][] outside = {{-1, 0}, {0, -1}, {2001, 0}, {0, 2001}, {-1, -1}};
        for (int[] o : outside) {
            Check.due("3: light(" + o[0] + ", " + o[1] + ")", x.light(o[0], o[1]), -2);
        }
        for (int far : FAR) {
            Check.due("3: light(" + far + ", 0)", x.light(far, 0), -2);
            Check.due("3: light(0, " + far + ")", x.light(0, far), -2);
        }
    }

    private static void shoot() {
        int[] gains = {1, 5, 16, 17, 64};
        for (int gain : gains) {
            PictureJoin x = new PictureJoin();
            x.seed(12);
            Check.due("4: shoot, gain " + gain, x.shoot(8, 9, 101, 52, gain), 0);
            for (int j = 0; j < 9; j++) {
                for (int i = 0; i < 8; i++) {
                    int lit = x.light(101 + i, 52 + j) * gain / 16;
                    Check.due("4: dot " + i + ", " + j + ", gain " + gain, x.at(0, i, j), lit > 255 ? 255 : lit);
                }
            }
            Check.due("4: w", x.place(0, 4), 8);
            Check.due("4: h", x.place(0, 5), 9);
        }
        PictureJoin x = new PictureJoin();
        Check.due("4: least", x.shoot(8, 8, 0, 0, 1), 0);
        Check.due("4: most", x.shoot(20, 20, 1900, 1900, 64), 1);
        Check.due("4: wide", x.shoot(20, 8, 1900, 0, 16), 2);
        Check.due("4: high", x.shoot(8, 20, 0, 1900, 16), 3);
        Check.due("4: last dot", x.at(2, 19, 7), x.light(1919, 7));
        Check.due("4: last dot", x.at(3, 7, 19), x.light(7, 1919));
        Check.due("4: a fifth", x.shoot(8, 8, 0, 0, 16), -4);
        Check.due("4: there are four", x.told(0), 4);
        Check.due("4: the fourth stays", x.place(3, 5), 20);
    }

    private static void shootRefuses() {
        int[][] outside = {
            {7, 8, 0, 0, 16}, {21, 8, 0, 0, 16}, {8, 7, 0, 0, 16}, {8, 21, 0, 0, 16}, {8, 8, -1, 0, 16},
            {8, 8, 1901, 0, 16}, {8, 8, 0, -1, 16}, {8, 8, 0, 1901, 16}, {8, 8, 0, 0, 0}, {8, 8, 0, 0, 65},
            {-8, 8, 0, 0, 16}, {8, 8, 0, 0, -16},
        };
        PictureJoin x = new PictureJoin();
        for (int[] o : outside) {
            Check.due("4: OUTSIDE " + java.util.Arrays.toString(o), x.shoot(o[0], o[1], o[2], o[3], o[4]), -2);
        }
        for (int far : FAR) {
            Check.due("4: far w", x.shoot(far, 8, 0, 0, 16), -2);
            Check.due("4: far h", x.shoot(8, far, 0, 0, 16), -2);
            Check.due("4: far x", x.shoot(8, 8, far, 0, 16), -2);
            Check.due("4: far y", x.shoot(8, 8, 0, far, 16), -2);
            Check.due("4: far gain", x.shoot(8, 8, 0, 0, far), -2);
        }
        Check.due("4: none was shot", x.told(0), 0);
        for (int p = 0; p < 4; p++) {
            x.shoot(8, 8, 0, 0, 16);
        }
        Check.due("4: OUTSIDE ahead of FULL", x.shoot(7, 8, 0, 0, 16), -2);
        Check.due("4: OUTSIDE ahead of FULL", x.shoot(8, 8, 0, 0, 65), -2);
        Check.due("4: FULL", x.shoot(8, 8, 0, 0, 64), -4);
    }

    private static void clear() {
        PictureJoin x = new PictureJoin();
        x.seed(8);
        x.rules(70, 5);
        x.shoot(20, 20, 30, 30, 16);
        x.shoot(20, 20, 30, 30, 16);
        Check.due("5: joined before", x.joined(), 2);
        Check.due("5: clear()", x.clear(), 2);
        Check.due("5: told(0)", x.told(0), 0);
        Check.due("5: BAR stays", x.told(1), 70);
        Check.due("5: NEAR stays", x.told(2), 5);
        Check.due("5: SEED stays", x.told(3), 8);
        Check.due("5: joined()", x.joined(), 0);
        Check.due("5: whole(0, 0, 1)", x.whole(0, 0, 1), -6);
        Check.due("5: extent(4)", x.extent(4), N);
        Check.due("5: at(0, 0, 0)", x.at(0, 0, 0), U);
        Check.due("5: marks(0)", x.marks(0), -1);
        Check.due("5: mark(0, 0, 0)", x.mark(0, 0, 0), -1);
        Check.due("5: clear() again", x.clear(), 0);
        Check.due("5: numbered from 0 again", x.shoot(8, 9, 60, 60, 16), 0);
        Check.due("5: w of the new one", x.place(0, 4), 8);
        Check.due("5: no dot of the old one", x.at(0, 8, 0), U);
        Check.due("5: a dot of the new one", x.at(0, 7, 8), x.light(67, 68));
        Check.due("5: places of the new one", x.extent(4), 72);
        Check.due("5: clear()", x.clear(), 1);
    }

    private static void dot() {
        PictureJoin x = new PictureJoin();
        x.shoot(8, 10, 40, 40, 16);
        int before = x.at(0, 7, 9);
        Check.due("6: what it was", x.dot(0, 7, 9, 255), before);
        Check.due("6: 255 was told", x.dot(0, 7, 9, 0), 255);
        Check.due("6: 0 was told", x.dot(0, 7, 9, -1), 0);
        Check.due("6: it was lost", x.dot(0, 7, 9, 17), -1);
        Check.due("6: at", x.at(0, 7, 9), 17);
        Check.due("6: the dot beside it", x.at(0, 6, 9), x.light(46, 49));
        Check.due("6: the dot above it", x.at(0, 7, 8), x.light(47, 48));
        x.shoot(8, 8, 40, 40, 16);
        x.dot(1, 0, 0, 99);
        Check.due("6: another picture's stays", x.at(0, 0, 0), x.light(40, 40));
    }

    private static void dotRefuses() {
        PictureJoin x = new PictureJoin();
        x.shoot(8, 10, 40, 40, 16);
        int[][] unknown = {{1, 0, 0}, {-1, 0, 0}, {4, 0, 0}, {0, -1, 0}, {0, 8, 0}, {0, 0, -1}, {0, 0, 10}};
        for (int[] d : unknown) {
            String call = java.util.Arrays.toString(d);
            Check.due("6: UNKNOWN " + call, x.dot(d[0], d[1], d[2], 3), U);
            Check.due("6: UNKNOWN ahead of OUTSIDE " + call, x.dot(d[0], d[1], d[2], 256), U);
            Check.due("7: UNKNOWN " + call, x.at(d[0], d[1], d[2]), U);
            Check.due("9: UNKNOWN " + call, x.score(d[0], d[1], d[2]), -1);
        }
        for (int far : FAR) {
            Check.due("6: far picture", x.dot(far, 0, 0, 0), U);
            Check.due("6: far i", x.dot(0, far, 0, 0), U);
            Check.due("6: far j", x.dot(0, 0, far, 0), U);
            Check.due("6: far v", x.dot(0, 0, 0, far), O);
            Check.due("7: far picture", x.at(far, 0, 0), U);
            Check.due("7: far i", x.at(0, far, 0), U);
            Check.due("7: far j", x.at(0, 0, far), U);
        }
        int before = x.at(0, 0, 0);
        Check.due("6: v 256", x.dot(0, 0, 0, 256), O);
        Check.due("6: v -2", x.dot(0, 0, 0, -2), O);
        Check.due("6: nothing changed", x.at(0, 0, 0), before);
    }

    private static void at() {
        PictureJoin x = new PictureJoin();
        x.shoot(9, 8, 40, 40, 16);
        Check.due("7: first", x.at(0, 0, 0), x.light(40, 40));
        Check.due("7: i is the column", x.at(0, 8, 0), x.light(48, 40));
        Check.due("7: j is the row", x.at(0, 0, 7), x.light(40, 47));
        Check.due("7: no column 9", x.at(0, 9, 0), U);
        Check.due("7: no row 8", x.at(0, 0, 8), U);
        x.dot(0, 8, 7, -1);
        Check.due("7: a lost one", x.at(0, 8, 7), -1);
    }

    private static void rules() {
        PictureJoin x = new PictureJoin();
        Check.due("8: rules(1, 0)", x.rules(1, 0), 1);
        Check.due("8: BAR", x.told(1), 1);
        Check.due("8: NEAR", x.told(2), 0);
        Check.due("8: rules(1000000, 12)", x.rules(1000000, 12), 1);
        Check.due("8: BAR", x.told(1), 1000000);
        Check.due("8: NEAR", x.told(2), 12);
        int[][] outside = {{0, 5}, {1000001, 5}, {-1, 5}, {50, -1}, {50, 13}, {0, 13}};
        for (int[] o : outside) {
            Check.due("8: rules" + java.util.Arrays.toString(o), x.rules(o[0], o[1]), -2);
        }
        for (int far : FAR) {
            Check.due("8: far BAR", x.rules(far, 1), -2);
            Check.due("8: far NEAR", x.rules(1, far), -2);
        }
        Check.due("8: BAR stays", x.told(1), 1000000);
        Check.due("8: NEAR stays", x.told(2), 12);
    }

    private static void told() {
        PictureJoin x = new PictureJoin();
        x.seed(-9);
        x.rules(333, 4);
        x.shoot(8, 8, 0, 0, 16);
        x.shoot(8, 8, 0, 0, 16);
        Check.due("22: PICTURES", x.told(0), 2);
        Check.due("22: BAR", x.told(1), 333);
        Check.due("22: NEAR", x.told(2), 4);
        Check.due("22: SEED", x.told(3), -9);
        Check.due("22: told(4)", x.told(4), O);
        Check.due("22: told(-1)", x.told(-1), O);
        for (int far : FAR) {
            Check.due("22: told(" + far + ")", x.told(far), O);
        }
    }
}
