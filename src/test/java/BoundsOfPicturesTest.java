import java.math.BigInteger;
import java.util.Random;
import java.util.TreeSet;

/**
 * Part 1 of the document, pictures and marks: each sentence that names a limit has a method of its own here,
 * which says the sentence. (What is refused, and in which order, stands in RefusalsTest too.)
 */
public final class BoundsOfPicturesTest {
    private static final int UNKNOWN = -1, OUTSIDE = -2, FULL = -4;
    private static final int LOST = -1000000;
    private static final int MIN = Integer.MIN_VALUE, MAX = Integer.MAX_VALUE;
    private static final int[] FAR = {MIN, MIN + 1, MAX - 1, MAX};
    private static final int PLAIN = 10;

    public static void main(String[] args) {
        atFirst();
        seedIsAnyInt();
        lightFromZeroToTwoThousand();
        lightByThree();
        lightWraps();
        sidesFromEightToTwenty();
        cornersFromZeroToNineteenHundred();
        gainFromOneToSixtyFour();
        gainCut();
        gainTwoHundredFiftyFiveAtMost();
        fourPicturesAtMost();
        clearFromNoneToFour();
        dotsFromLostToTwoHundredFiftyFive();
        dotsOfAPicture();
        barFromOneToAMillion();
        nearFromZeroToTwelve();
        scoreFromThreeToFourOff();
        scoreOfEachWay();
        scoreOfLost();
        markOfBarOrMore();
        barOfFiveThousandAtFirst();
        noMarkOfAMillion();
        markAmongTwentyFour();
        for (int marks = 15; marks <= 20; marks++) {
            sixteenMarksAtMost(marks);
            sixteenMarksAtMostDownwards(marks);
        }
        signOfTwelveBits();
        signOfLost();
        toldFromZeroToThree();
        Check.end();
    }

    private static PictureJoin plain(int w, int h, int value) {
        PictureJoin x = new PictureJoin();
        x.shoot(w, h, 0, 0, 1);
        Scene.plain(x, 0, value);
        return x;
    }

    /** Promise 1: "SEED 0; no PICTURES". Terms: "BAR (..; 5000 at first)", "NEAR (..; 2 at first)". */
    private static void atFirst() {
        PictureJoin x = new PictureJoin();
        int[] due = {0, 5000, 2, 0};
        for (int what = 0; what < 4; what++) {
            Check.due("at first, told(" + what + ")", x.told(what), due[what]);
        }
        Check.due("at first, seed(5)", x.seed(5), 0);
    }

    /** Promise 2: "SEED: which it was (PICTURES stay)". */
    private static void seedIsAnyInt() {
        PictureJoin x = new PictureJoin();
        int[] seeds = {1, -1, MIN, MAX, MIN + 1, MAX - 1, 0, 0};
        int was = 0;
        x.shoot(8, 8, 9, 9, 16);
        int dot = x.at(0, 7, 7);
        for (int seed : seeds) {
            Check.due("seed(" + seed + ")", x.seed(seed), was);
            Check.due("told(3)", x.told(3), seed);
            Check.due("a dot stays", x.at(0, 7, 7), dot);
            was = seed;
        }
        Check.due("the picture stays", x.told(0), 1);
    }

    /** Whole numbers without end, cut to the lowest 32 bits as ints are. */
    private static int lightWithoutEnd(int seed, int x, int y) {
        BigInteger ints = BigInteger.ONE.shiftLeft(32);
        BigInteger m = sumWithoutEnd(seed, x, y).mod(ints);
        for (int k = 0; k < 2; k++) {
            m = m.xor(m.shiftRight(15)).multiply(BigInteger.valueOf(739982445)).mod(ints);
        }
        return m.shiftRight(16).mod(BigInteger.valueOf(256)).intValue();
    }

    private static BigInteger sumWithoutEnd(int seed, int x, int y) {
        return BigInteger.valueOf(x / 3).multiply(BigInteger.valueOf(73856093))
                .add(BigInteger.valueOf(y / 3).multiply(BigInteger.valueOf(19349663)))
                .add(BigInteger.valueOf(seed).multiply(BigInteger.valueOf(83492791)));
    }

    /** "at x, y (0 to 2000 both)"; promise 3: "OUTSIDE". */
    private static void lightFromZeroToTwoThousand() {
        PictureJoin x = new PictureJoin();
        x.seed(9);
        int[] taken = {0, 1, 1999, 2000};
        int[] not = {-1, -2, 2001, 2002, MIN, MAX};
        for (int t : taken) {
            for (int other : taken) {
                Check.due("light(" + t + ", " + other + ")", x.light(t, other), lightWithoutEnd(9, t, other));
            }
            for (int n : not) {
                Check.due("light(" + t + ", " + n + ")", x.light(t, n), OUTSIDE);
                Check.due("light(" + n + ", " + t + ")", x.light(n, t), OUTSIDE);
            }
        }
    }

    /** "x by 3 times 73856093, y by 3 times 19349663"; "Quotients are cut". */
    private static void lightByThree() {
        PictureJoin x = new PictureJoin();
        x.seed(9);
        int[] firsts = {0, 3, 300, 1998};
        for (int first : firsts) {
            int light = x.light(first, first);
            for (int k = 1; k < 9 && first + 2 <= 2000; k++) {
                Check.due("of one block of nine", x.light(first + k % 3, first + k / 3), light);
            }
        }
        Check.that("the next block by x is another", x.light(2, 0) != x.light(3, 0));
        Check.that("the next block by y is another", x.light(0, 2) != x.light(0, 3));
        Check.that("the last block by x is another", x.light(1997, 0) != x.light(1998, 0));
        Check.that("the last block by y is another", x.light(0, 1997) != x.light(0, 1998));
    }

    /** "(ints wrap)": the sum and both products go far beyond an int. */
    private static void lightWraps() {
        int[] seeds = {MIN, MIN + 1, MAX, MAX - 1, -1, 26, -26, 1000000007};
        int[][] places = {{0, 0}, {2000, 2000}, {2000, 0}, {0, 2000}, {87, 0}, {90, 0}, {0, 330}, {0, 333}};
        PictureJoin x = new PictureJoin();
        int beyond = 0;
        for (int seed : seeds) {
            x.seed(seed);
            for (int[] p : places) {
                Check.due("seed " + seed + ", light(" + p[0] + ", " + p[1] + ")", x.light(p[0], p[1]), lightWithoutEnd(seed, p[0], p[1]));
                beyond += sumWithoutEnd(seed, p[0], p[1]).bitLength() > 31 ? 1 : 0;
            }
        }
        Check.that("most sums are beyond an int: " + beyond, beyond > 40);
    }

    private static void dueShot(int due, int w, int h, int x, int y, int gain) {
        PictureJoin join = new PictureJoin();
        Check.due("shoot(" + w + ", " + h + ", " + x + ", " + y + ", " + gain + ")", join.shoot(w, h, x, y, gain), due);
        Check.due("how many then", join.told(0), due == 0 ? 1 : 0);
        Check.due("w", join.place(0, 4), due == 0 ? w : LOST + UNKNOWN);
        Check.due("h", join.place(0, 5), due == 0 ? h : LOST + UNKNOWN);
    }

    /** "w by h DOTS (8 to 20 both)"; promise 4: "its number. OUTSIDE". */
    private static void sidesFromEightToTwenty() {
        int[] others = {8, 13, 20};
        for (int side = -1; side <= 30; side++) {
            for (int other : others) {
                dueShot(side >= 8 && side <= 20 ? 0 : OUTSIDE, side, other, 0, 0, 1);
                dueShot(side >= 8 && side <= 20 ? 0 : OUTSIDE, other, side, 0, 0, 1);
            }
        }
        for (int far : FAR) {
            dueShot(OUTSIDE, far, 8, 0, 0, 1);
            dueShot(OUTSIDE, 8, far, 0, 0, 1);
        }
    }

    /** Promise 4: "(x, y 0 to 1900)". */
    private static void cornersFromZeroToNineteenHundred() {
        int[] taken = {0, 1, 1899, 1900};
        int[] not = {-1, -2, 1901, 1902, 1980, 1981, 2000, MIN, MAX};
        for (int t : taken) {
            for (int other : taken) {
                dueShot(0, 20, 20, t, other, 1);
            }
            for (int n : not) {
                dueShot(OUTSIDE, 8, 8, t, n, 1);
                dueShot(OUTSIDE, 8, 8, n, t, 1);
            }
        }
        PictureJoin x = new PictureJoin();
        x.seed(4);
        x.shoot(20, 19, 1900, 1899, 16);
        int[][] corners = {{0, 0}, {19, 0}, {0, 18}, {19, 18}};
        for (int[] c : corners) {
            Check.due("the dot at a corner", x.at(0, c[0], c[1]), lightWithoutEnd(4, 1900 + c[0], 1899 + c[1]));
        }
    }

    /** "with a GAIN (1 to 64)". */
    private static void gainFromOneToSixtyFour() {
        int[] gains = {-1, 0, 1, 2, 63, 64, 65, 66, MIN, MAX};
        for (int gain : gains) {
            dueShot(gain >= 1 && gain <= 64 ? 0 : OUTSIDE, 8, 8, 0, 0, gain);
        }
    }

    /** A picture whose dot 0, 0 is shot of a place with this LIGHT. */
    private static int dotOfLight(int light, int gain) {
        PictureJoin join = new PictureJoin();
        for (int k = 0; k < 633 * 633; k++) {
            int x = k % 633 * 3;
            int y = k / 633 * 3;
            if (lightWithoutEnd(0, x, y) == light) {
                join.shoot(8, 8, x, y, gain);
                return join.at(0, 0, 0);
            }
        }
        return LOST;
    }

    /** "DOT i, j is GAIN times LIGHT .. by 16"; "Quotients are cut". */
    private static void gainCut() {
        int[][] cut = {
            // LIGHT, GAIN, DOT
            {0, 64, 0}, {15, 1, 0}, {16, 1, 1}, {31, 1, 1}, {32, 1, 2}, {255, 1, 15}, {255, 15, 239}, {255, 16, 255}, {5, 3, 0}, {6, 3, 1},
        };
        for (int[] c : cut) {
            Check.due("LIGHT " + c[0] + ", GAIN " + c[1], dotOfLight(c[0], c[1]), c[2]);
        }
    }

    /** "255 at most". */
    private static void gainTwoHundredFiftyFiveAtMost() {
        int[][] most = {
            {254, 16, 254}, {255, 16, 255}, {240, 17, 255}, {241, 17, 255}, {239, 17, 253}, {63, 64, 252}, {64, 64, 255}, {255, 64, 255},
        };
        for (int[] m : most) {
            Check.due("LIGHT " + m[0] + ", GAIN " + m[1], dotOfLight(m[0], m[1]), m[2]);
        }
    }

    /** "A PICTURE, 4 at most, numbered from 0 on"; promise 4: "FULL". */
    private static void fourPicturesAtMost() {
        PictureJoin x = new PictureJoin();
        for (int p = 0; p < 4; p++) {
            Check.due("how many", x.told(0), p);
            Check.due("picture " + p + " is not there", x.place(p, 4), LOST + UNKNOWN);
            Check.due("its number", x.shoot(8 + p, 20 - p, p, 2 * p, 16), p);
            Check.due("picture " + p + " is there", x.place(p, 4), 8 + p);
        }
        for (int again = 0; again < 2; again++) {
            Check.due("a fifth", x.shoot(8, 8, 0, 0, 1), FULL);
            Check.due("there are four", x.told(0), 4);
            Check.due("no picture 4", x.place(4, 4), LOST + UNKNOWN);
        }
        for (int p = 0; p < 4; p++) {
            Check.due("w stays", x.place(p, 4), 8 + p);
            Check.due("h stays", x.place(p, 5), 20 - p);
            Check.due("the last dot stays", x.at(p, 7 + p, 19 - p), lightWithoutEnd(0, 7 + 2 * p, 19 + p));
        }
    }

    /** Promise 5: "All PICTURES go: how many there were". */
    private static void clearFromNoneToFour() {
        PictureJoin x = new PictureJoin();
        for (int many = 0; many <= 5; many++) {
            for (int p = 0; p < many; p++) {
                Check.due("numbered from 0 on again", x.shoot(8 + many, 8, 0, 0, 1), p < 4 ? p : FULL);
            }
            Check.due("clear()", x.clear(), Math.min(many, 4));
            Check.due("none is there", x.told(0), 0);
            Check.due("picture 0 is gone", x.at(0, 0, 0), LOST + UNKNOWN);
            Check.due("clear() of none", x.clear(), 0);
        }
    }

    /** "each 0 to 255 or LOST (-1)"; promise 6: "what it was. .. OUTSIDE (LOST less 2)". */
    private static void dotsFromLostToTwoHundredFiftyFive() {
        PictureJoin x = plain(8, 8, 100);
        int was = 100;
        for (int v = -3; v <= 258; v++) {
            boolean fits = v >= -1 && v <= 255;
            Check.due("dot(0, 7, 0, " + v + ")", x.dot(0, 7, 0, v), fits ? was : LOST + OUTSIDE);
            was = fits ? v : was;
        }
        for (int far : FAR) {
            Check.due("dot(0, 7, 0, " + far + ")", x.dot(0, 7, 0, far), LOST + OUTSIDE);
        }
        Check.due("the last that was taken", x.at(0, 7, 0), 255);
    }

    /** Promises 6, 7, 9: "UNKNOWN": "there is no such PICTURE, .. dot". */
    private static void dotsOfAPicture() {
        int[][] sides = {{8, 20}, {20, 8}, {9, 11}, {20, 20}, {8, 8}};
        for (int[] s : sides) {
            PictureJoin x = new PictureJoin();
            x.seed(s[0]);
            x.shoot(s[0], s[1], 0, 0, 16);
            int[] columns = {MIN, -1, 0, s[0] - 1, s[0], 20, MAX};
            int[] rows = {MIN, -1, 0, s[1] - 1, s[1], 20, MAX};
            for (int i : columns) {
                for (int j : rows) {
                    boolean there = i >= 0 && i < s[0] && j >= 0 && j < s[1];
                    String dot = i + ", " + j + " of " + s[0] + " by " + s[1];
                    int light = there ? lightWithoutEnd(s[0], i, j) : LOST + UNKNOWN;
                    Check.due("at " + dot, x.at(0, i, j), light);
                    Check.due("dot " + dot, x.dot(0, i, j, 1), light);
                    Check.due("at then " + dot, x.at(0, i, j), there ? 1 : LOST + UNKNOWN);
                    Check.due("score " + dot, x.score(0, i, j), there ? 0 : UNKNOWN);
                }
            }
        }
    }

    /** "BAR (1 to 1000000; ..)"; promise 8: "BAR, NEAR: 1. OUTSIDE". */
    private static void barFromOneToAMillion() {
        PictureJoin x = new PictureJoin();
        int[] bars = {1, 2, 999999, 1000000, 5000};
        int[] not = {0, -1, 1000001, 1000002, MIN, MAX};
        for (int bar : bars) {
            Check.due("rules(" + bar + ", 2)", x.rules(bar, 2), 1);
            Check.due("told(1)", x.told(1), bar);
            for (int n : not) {
                Check.due("rules(" + n + ", 3)", x.rules(n, 3), OUTSIDE);
                Check.due("BAR stays", x.told(1), bar);
                Check.due("NEAR stays", x.told(2), 2);
            }
        }
    }

    /** "NEAR (0 to 12; ..)"; promise 8: "OUTSIDE". */
    private static void nearFromZeroToTwelve() {
        PictureJoin x = new PictureJoin();
        int[] not = {-1, -2, 13, 14, MIN, MAX};
        for (int near = 0; near <= 12; near++) {
            Check.due("rules(7, " + near + ")", x.rules(7, near), 1);
            Check.due("told(2)", x.told(2), near);
            for (int n : not) {
                Check.due("rules(8, " + n + ")", x.rules(8, n), OUTSIDE);
                Check.due("NEAR stays", x.told(2), near);
                Check.due("BAR stays", x.told(1), 7);
            }
        }
    }

    /** "SCORE of a DOT i, j (i from 3 to w - 4, j from 3 to h - 4)"; "0 .. for all other i, j". */
    private static void scoreFromThreeToFourOff() {
        int[][] sides = {{8, 8}, {20, 20}, {8, 20}, {20, 8}, {9, 10}};
        for (int[] s : sides) {
            PictureJoin x = new PictureJoin();
            x.seed(2);
            x.shoot(s[0], s[1], 60, 90, 16);
            int[] columns = {0, 1, 2, 3, s[0] - 4, s[0] - 3, s[0] - 2, s[0] - 1};
            int[] rows = {0, 1, 2, 3, s[1] - 4, s[1] - 3, s[1] - 2, s[1] - 1};
            for (int i : columns) {
                for (int j : rows) {
                    boolean inside = i >= 3 && i <= s[0] - 4 && j >= 3 && j <= s[1] - 4;
                    int score = x.score(0, i, j);
                    Check.that("score of " + i + ", " + j + " of " + s[0] + " by " + s[1] + " is " + score, inside ? score > 0 : score == 0);
                }
            }
        }
    }

    /**
     * "for each of the ways (1, 0), (0, 1), (1, 1), (1, -1) .. the least of these four sums": where one way
     * alone shows no change, the score is 0; a step in each way gives the least of the four.
     */
    private static void scoreOfEachWay() {
        int[][] steps = {{0, 1, 0}, {1, 0, 0}, {1, -1, 0}, {1, 1, 0}, {1, 2, 9}, {2, 1, 9}, {1, -2, 9}, {2, -1, 9}, {2, 5, 36}, {1, 3, 9}};
        for (int[] s : steps) {
            PictureJoin x = plain(8, 8, 0);
            for (int k = 0; k < 64; k++) {
                x.dot(0, k % 8, k / 8, 50 + s[0] * (k % 8) + s[1] * (k / 8));
            }
            Check.due("score where a step is " + s[0] + ", " + s[1], x.score(0, 3, 3), s[2]);
            Check.due("score where a step is " + s[0] + ", " + s[1], x.score(0, 4, 4), s[2]);
        }
    }

    /**
     * "A MARK is a DOT with a SCORE of BAR .. or more": one dot of a plain picture, d brighter than the
     * others, gives the dot one up and one left of it the score d by d, and no other has one.
     */
    private static void markOfBarOrMore() {
        int[] steps = {1, 2, 70, 71, 245};
        for (int d : steps) {
            PictureJoin x = plain(8, 8, PLAIN);
            x.dot(0, 5, 5, PLAIN + d);
            Check.due("the score", x.score(0, 4, 4), d * d);
            Check.due("no other score", x.score(0, 3, 3) + x.score(0, 3, 4) + x.score(0, 4, 3), 0);
            int[] bars = {1, d * d - 1, d * d, d * d + 1, 1000000};
            for (int bar : bars) {
                if (bar < 1) {
                    continue;
                }
                x.rules(bar, 2);
                Check.due("BAR " + bar + " of " + d * d, x.marks(0), d * d >= bar ? 1 : 0);
                Check.due("its SCORE", x.mark(0, 0, 2), d * d >= bar ? d * d : UNKNOWN);
            }
        }
        PictureJoin plain = plain(8, 8, PLAIN);
        plain.rules(1, 2);
        Check.due("a score of 0 is below any BAR", plain.marks(0), 0);
    }

    /** "5000 at first". */
    private static void barOfFiveThousandAtFirst() {
        int[][] marks = {{49, 0}, {50, 1}, {51, 1}};
        for (int[] m : marks) {
            PictureJoin x = plain(8, 8, PLAIN);
            // the dots 3, 3 and 4, 3 have twice the square
            x.dot(0, 4, 3, PLAIN + m[0]);
            Check.due("score", x.score(0, 3, 3), 2 * m[0] * m[0]);
            Check.due("marks", x.marks(0), m[1]);
        }
    }

    /** "BAR (1 to 1000000; ..)": a BAR that no score comes up to. */
    private static void noMarkOfAMillion() {
        PictureJoin x = plain(8, 8, 0);
        for (int k = 0; k < 64; k++) {
            x.dot(0, k % 8, k / 8, (k % 8 + k / 8 * 2) % 4 < 2 ? 255 : 0);
        }
        Check.due("a high score", x.score(0, 3, 3), 3 * 255 * 255);
        Check.due("it is a mark", x.marks(0), 1);
        x.rules(1000000, 2);
        Check.due("no mark of a million", x.marks(0), 0);
    }

    /**
     * "such that of the 24 DOTS at most two off in rows and columns none has a greater SCORE, and none ahead
     * of it (by rows, then columns) the same": for each of the 24, and for each of those three off, there is a
     * picture in which this dot alone could keep another from being a mark.
     */
    private static void markAmongTwentyFour() {
        TreeSet<String> seen = new TreeSet<>();
        int due = 24 * 2 + 24;
        for (int run = 0; run < 4000 && seen.size() < due; run++) {
            Random random = new Random(run);
            Model model = new Model();
            model.rules(1, 2);
            model.shoot(10, 10, 0, 0, 1);
            int kinds = 2 + run % 3;
            for (int k = 0; k < 100; k++) {
                model.dot(0, k % 10, k / 10, random.nextInt(kinds));
            }
            for (int k = 0; k < 16; k++) {
                lookAbout(model, 3 + k % 4, 3 + k / 4, seen);
            }
        }
        Check.due("each dot about a mark has been the one that decides", seen.size(), due);
    }

    private static void lookAbout(Model model, int i, int j, TreeSet<String> seen) {
        int own = model.score(0, i, j);
        for (int k = 0; k < 49; k++) {
            int di = k % 7 - 3;
            int dj = k / 7 - 3;
            int other = own == 0 || k == 24 ? 0 : model.score(0, Math.max(i + di, 0), Math.max(j + dj, 0));
            if (other < own || other == 0 || othersAreAsHigh(model, i, j, di, dj)) {
                continue;
            }
            boolean about = Math.abs(di) < 3 && Math.abs(dj) < 3;
            boolean ahead = dj < 0 || dj == 0 && di < 0;
            String name = (other > own ? "greater at " : "like at ") + di + ", " + dj;
            boolean due = !about || other == own && !ahead;
            if ((about || other > own) && seen.add(name)) {
                Check.due(name + ", is it a mark", isMark(model, i, j) ? 1 : 0, due ? 1 : 0);
            }
        }
    }

    /** Whether another dot than the one at di, dj from i, j could keep i, j from being a mark. */
    private static boolean othersAreAsHigh(Model model, int i, int j, int di, int dj) {
        int own = model.score(0, i, j);
        for (int k = 0; k < 25; k++) {
            int row = k / 5 - 2;
            int column = k % 5 - 2;
            boolean itself = k == 12 || row == dj && column == di;
            if (!itself && model.score(0, i + column, j + row) >= own) {
                return true;
            }
        }
        return false;
    }

    /** Asks the class, of a picture told as the model's is. */
    private static boolean isMark(Model model, int i, int j) {
        PictureJoin x = new PictureJoin();
        x.rules(1, 2);
        x.shoot(10, 10, 0, 0, 1);
        for (int k = 0; k < 100; k++) {
            x.dot(0, k % 10, k / 10, model.at(0, k % 10, k / 10));
        }
        for (int m = 0; m < x.marks(0); m++) {
            if (x.mark(0, m, 0) == i && x.mark(0, m, 1) == j) {
                return true;
            }
        }
        return false;
    }

    /**
     * "MARKS of a PICTURE are numbered by SCORES, the greatest first, like ones by rows, then columns; 16 at
     * most". Four rows of five spots, each brighter than the one on its left: as many marks as spots, or 16.
     */
    private static void sixteenMarksAtMost(int spots) {
        PictureJoin x = plain(20, 20, PLAIN);
        for (int k = 0; k < spots; k++) {
            x.dot(0, 4 + k % 5 * 3, 3 + k / 5 * 4, PLAIN + 100 + 10 * (k % 5));
        }
        String of = " of " + spots + " spots";
        Check.due("marks" + of, x.marks(0), Math.min(spots, 16));
        int m = 0;
        for (int column = 4; column >= 0; column--) {
            for (int k = column; k < spots; k += 5) {
                int[] due = {3 + column * 3, 3 + k / 5 * 4, 2 * (100 + 10 * column) * (100 + 10 * column)};
                for (int what = 0; what < 3; what++) {
                    Check.due("mark " + m + ", " + what + of, x.mark(0, m, what), m < 16 ? due[what] : UNKNOWN);
                }
                m++;
            }
        }
        Check.due("no mark behind the last" + of, x.mark(0, Math.min(spots, 16), 0), UNKNOWN);
        Check.due("UNKNOWN ahead of OUTSIDE" + of, x.mark(0, Math.min(spots, 16), 4), UNKNOWN);
        Check.due("OUTSIDE at the last" + of, x.mark(0, Math.min(spots, 16) - 1, 4), OUTSIDE);
    }

    /** As sixteenMarksAtMost, but each row is dimmer than all rows above it: the marks left out are the last. */
    private static void sixteenMarksAtMostDownwards(int spots) {
        PictureJoin x = plain(20, 20, PLAIN);
        for (int k = 0; k < spots; k++) {
            x.dot(0, 4 + k % 5 * 3, 3 + k / 5 * 4, PLAIN + 195 - 45 * (k / 5) + 10 * (k % 5));
        }
        String of = " of " + spots + " spots downwards";
        Check.due("marks" + of, x.marks(0), Math.min(spots, 16));
        int m = 0;
        for (int row = 0; row < 4; row++) {
            for (int column = Math.min(5, spots - 5 * row) - 1; column >= 0; column--) {
                Check.due("i of mark " + m + of, x.mark(0, m, 0), m < 16 ? 3 + column * 3 : UNKNOWN);
                Check.due("j of mark " + m + of, x.mark(0, m, 1), m < 16 ? 3 + row * 4 : UNKNOWN);
                m++;
            }
        }
    }

    /** "0, if one of the DOTS is LOST": each of those that a sum asks for; of the others none. */
    private static void scoreOfLost() {
        PictureJoin x = plain(8, 8, PLAIN);
        x.dot(0, 5, 4, PLAIN + 100);
        for (int k = 0; k < 64; k++) {
            int i = k % 8;
            int j = k / 8;
            // the 9 dots about 4, 4, and those one off from them to the right, down, right and down, right and up
            boolean about = Math.abs(i - 4) <= 1 && Math.abs(j - 4) <= 1;
            boolean right = Math.abs(i - 5) <= 1 && Math.abs(j - 4) <= 2;
            boolean down = Math.abs(i - 4) <= 1 && Math.abs(j - 5) <= 1;
            int was = x.dot(0, i, j, -1);
            Check.due("score with " + i + ", " + j + " lost", x.score(0, 4, 4), about || right || down ? 0 : 20000);
            x.dot(0, i, j, was);
        }
        Check.due("score with none lost", x.score(0, 4, 4), 20000);
    }

    /** "12 bits; bit k is 1, if the DOT at (k % 5 - 2, k % 3 - 1) from it is below that at (2 - k % 4, k % 5 - 2)". */
    private static void signOfTwelveBits() {
        PictureJoin x = plain(8, 8, Scene.PLAIN);
        Scene.spot(x, 0, 4, 4, Scene.SPOT);
        int[][] bits = {
            // k, one, other: columns and rows from the mark, told by hand
            {0, -2, -1, 2, -2}, {1, -1, 0, 1, -1}, {2, 0, 1, 0, 0}, {3, 1, -1, -1, 1}, {4, 2, 0, 2, 2}, {5, -2, 1, 1, -2},
            {6, -1, -1, 0, -1}, {7, 0, 0, -1, 0}, {8, 1, 1, 2, 1}, {9, 2, -1, 1, 2}, {10, -2, 0, 0, -2}, {11, -1, 1, -1, -1},
        };
        for (int[] b : bits) {
            int bit = 1 << b[0];
            int one = x.dot(0, 4 + b[1], 4 + b[2], 90);
            int other = x.dot(0, 4 + b[3], 4 + b[4], 90);
            x.rules(1, 2);
            int m = markAt(x, 4, 4);
            Check.that("a mark for bit " + b[0], m >= 0);
            Check.due("bit " + b[0] + " where both are like", x.mark(0, m, 3) & bit, 0);
            x.dot(0, 4 + b[1], 4 + b[2], 89);
            Check.due("bit " + b[0] + " where the one is below", x.mark(0, markAt(x, 4, 4), 3) & bit, bit);
            x.dot(0, 4 + b[1], 4 + b[2], 91);
            Check.due("bit " + b[0] + " where the one is above", x.mark(0, markAt(x, 4, 4), 3) & bit, 0);
            x.dot(0, 4 + b[1], 4 + b[2], one);
            x.dot(0, 4 + b[3], 4 + b[4], other);
        }
    }

    private static int markAt(PictureJoin x, int i, int j) {
        for (int m = 0; m < x.marks(0); m++) {
            if (x.mark(0, m, 0) == i && x.mark(0, m, 1) == j) {
                return m;
            }
        }
        return -1;
    }

    /** "(LOST is below all others.)": below 0 too. */
    private static void signOfLost() {
        int[][] lost = {{3, 1}, {5, 32}, {4, 1024}};
        for (int[] l : lost) {
            PictureJoin x = plain(8, 8, 0);
            Scene.spot(x, 0, 4, 4, 200);
            Check.due("SIGN of dots of 0", x.mark(0, 0, 3), 0);
            x.dot(0, 2, l[0], -1);
            Check.due("SIGN with a lost one", x.mark(0, 0, 3), l[1]);
            Check.due("it is the same mark", x.mark(0, 0, 0), 4);
        }
    }

    /** Promise 22: "0 PICTURES, 1 BAR, 2 NEAR, 3 SEED. OUTSIDE (LOST less 2)". */
    private static void toldFromZeroToThree() {
        PictureJoin x = new PictureJoin();
        x.seed(MIN);
        x.rules(1000000, 12);
        x.shoot(8, 8, 0, 0, 1);
        int[] due = {1, 1000000, 12, MIN};
        for (int what = 0; what < 4; what++) {
            Check.due("told(" + what + ")", x.told(what), due[what]);
        }
        int[] not = {-1, -2, 4, 5, MIN, MAX};
        for (int what : not) {
            Check.due("told(" + what + ")", x.told(what), LOST + OUTSIDE);
        }
    }
}
