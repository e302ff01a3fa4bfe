import java.util.List;
import java.util.Random;

/** Promises 9 to 11 (and 8 for BAR): scores, marks, their numbers and signs. */
public final class MarksTest {
    public static void main(String[] args) {
        scoreIsTheLeastOfFourWays();
        scoreOfSpots();
        scoreOnlyInside();
        scoreOfLostDots();
        marksByBar();
        likeScores();
        numbersByScores();
        int leftOut = 0;
        for (int kinds = 3; kinds < 9; kinds++) {
            leftOut += sixteenAtMost(kinds) ? 1 : 0;
        }
        Check.that("10: the last by rows is left out: " + leftOut + " times", leftOut > 0 && leftOut < 6);
        signs();
        signsOfLostDots();
        refusals();
        Check.end();
    }

    private static PictureJoin plain(int w, int h, int value) {
        PictureJoin x = new PictureJoin();
        x.shoot(w, h, 0, 0, 1);
        Scene.plain(x, 0, value);
        return x;
    }

    /** On a slope of a by columns and b by rows the four sums are 9 times the squares of a, b, a + b and a - b. */
    private static void scoreIsTheLeastOfFourWays() {
        int[][] slopes = {{5, 2, 36}, {2, 5, 36}, {5, 4, 9}, {5, -4, 9}, {0, 7, 0}, {7, 0, 0}, {6, 6, 0}, {6, -6, 0}, {12, 5, 225}};
        for (int[] s : slopes) {
            PictureJoin x = new PictureJoin();
            x.shoot(8, 8, 0, 0, 1);
            for (int j = 0; j < 8; j++) {
                for (int i = 0; i < 8; i++) {
                    x.dot(0, i, j, 100 + s[0] * i + s[1] * j);
                }
            }
            for (int k = 0; k < 4; k++) {
                Check.due("9: slope " + s[0] + ", " + s[1], x.score(0, 3 + k % 2, 3 + k / 2), s[2]);
            }
        }
    }

    private static void scoreOfSpots() {
        PictureJoin x = plain(9, 9, 10);
        x.dot(0, 5, 4, 60);
        int[][] scores = {{3, 3, 0}, {4, 3, 2500}, {5, 3, 2500}, {3, 4, 0}, {4, 4, 5000}, {5, 4, 5000}, {4, 5, 2500}, {5, 5, 2500}};
        for (int[] s : scores) {
            Check.due("9: score(0, " + s[0] + ", " + s[1] + ")", x.score(0, s[0], s[1]), s[2]);
        }
        x.dot(0, 5, 4, 10);
        Check.due("9: no spot", x.score(0, 4, 4), 0);
        PictureJoin y = new PictureJoin();
        y.shoot(8, 8, 0, 0, 1);
        for (int j = 0; j < 8; j++) {
            for (int i = 0; i < 8; i++) {
                y.dot(0, i, j, (i + 2 * j) % 5 < 2 ? 255 : 0);
            }
        }
        Check.that("9: a high score is no less than it is " + y.score(0, 3, 3), y.score(0, 3, 3) >= 2 * 255 * 255);
    }

    private static void scoreOnlyInside() {
        PictureJoin x = new PictureJoin();
        x.shoot(10, 8, 0, 0, 1);
        Random random = new Random(1);
        for (int j = 0; j < 8; j++) {
            for (int i = 0; i < 10; i++) {
                x.dot(0, i, j, random.nextInt(256));
            }
        }
        for (int j = 0; j < 8; j++) {
            for (int i = 0; i < 10; i++) {
                boolean inside = i >= 3 && i <= 6 && j >= 3 && j <= 4;
                Check.that("9: score(0, " + i + ", " + j + ") is " + x.score(0, i, j), inside == x.score(0, i, j) > 0);
            }
        }
    }

    /** Each dot that one of the sums asks for, and no other, makes the score 0 when it is lost. */
    private static void scoreOfLostDots() {
        PictureJoin x = plain(8, 8, 10);
        x.dot(0, 4, 3, 200);
        for (int j = 0; j < 8; j++) {
            for (int i = 0; i < 8; i++) {
                boolean left = i >= 2 && i <= 4 && j >= 2 && j <= 5;
                boolean right = i >= 3 && i <= 5 && j >= 1 && j <= 5;
                int before = x.dot(0, i, j, -1);
                Check.due("9: lost " + i + ", " + j, x.score(0, 3, 3), left || right ? 0 : 2 * 190 * 190);
                x.dot(0, i, j, before);
            }
        }
        Check.due("9: all told again", x.score(0, 3, 3), 2 * 190 * 190);
    }

    private static void marksByBar() {
        PictureJoin x = plain(9, 9, 10);
        x.dot(0, 5, 4, 60);
        Check.due("10: a score of BAR", x.marks(0), 1);
        x.rules(5001, 2);
        Check.due("10: BAR above", x.marks(0), 0);
        Check.due("11: no MARK", x.mark(0, 0, 0), -1);
        x.rules(5000, 2);
        Check.due("10: BAR as at first", x.marks(0), 1);
        Check.due("11: SCORE", x.mark(0, 0, 2), 5000);
        x.dot(0, 5, 4, 59);
        Check.due("10: a score below BAR", x.marks(0), 0);
        x.rules(1, 2);
        Check.due("10: BAR of 1", x.marks(0), 1);
        Check.due("11: SCORE", x.mark(0, 0, 2), 2 * 49 * 49);
        x.dot(0, 5, 4, 10);
        Check.due("10: a score of 0 is no MARK", x.marks(0), 0);
    }

    /** A spot gives two like scores, side by side: the one ahead is the MARK. Farther off both are MARKS. */
    private static void likeScores() {
        PictureJoin x = plain(17, 9, 10);
        x.dot(0, 4, 4, 110);
        Check.due("10: one of two like scores", x.marks(0), 1);
        Check.due("11: i of the one ahead", x.mark(0, 0, 0), 3);
        Check.due("11: j of the one ahead", x.mark(0, 0, 1), 4);
        x.dot(0, 9, 4, 110);
        x.dot(0, 13, 3, 110);
        Check.due("10: three like ones", x.marks(0), 3);
        int[][] due = {{12, 3}, {3, 4}, {8, 4}};
        for (int m = 0; m < 3; m++) {
            Check.due("11: i, by rows, then columns", x.mark(0, m, 0), due[m][0]);
            Check.due("11: j, by rows, then columns", x.mark(0, m, 1), due[m][1]);
            Check.due("11: SCORE", x.mark(0, m, 2), 20000);
        }
    }

    private static void numbersByScores() {
        PictureJoin x = plain(17, 9, 10);
        x.dot(0, 4, 4, 110);
        x.dot(0, 9, 4, 112);
        x.dot(0, 13, 3, 111);
        int[][] due = {{8, 4, 2 * 102 * 102}, {12, 3, 2 * 101 * 101}, {3, 4, 2 * 100 * 100}};
        for (int m = 0; m < 3; m++) {
            for (int what = 0; what < 3; what++) {
                Check.due("11: by scores, mark(0, " + m + ", " + what + ")", x.mark(0, m, what), due[m][what]);
            }
        }
        x.dot(0, 4, 4, 113);
        Check.due("11: the greatest is another now", x.mark(0, 0, 0), 3);
        x.dot(0, 4, 4, 10);
        Check.due("10: one is gone", x.marks(0), 2);
    }

    /**
     * Dots are changed by chance until there are eighteen marks, in the model; told to the class then.
     * Answers whether the last mark by rows and columns is one that is left out.
     */
    private static boolean sixteenAtMost(int kinds) {
        Random random = new Random(kinds);
        Model model = new Model();
        model.rules(1, 2);
        model.shoot(20, 20, 0, 0, 1);
        for (int k = 0; k < 400; k++) {
            model.dot(0, k % 20, k / 20, random.nextInt(kinds) * 255 / (kinds - 1));
        }
        int most = model.allSpots(0).size();
        for (int step = 0; step < 30000 && most < 18; step++) {
            int i = random.nextInt(20);
            int j = random.nextInt(20);
            int before = model.dot(0, i, j, random.nextInt(kinds) * 255 / (kinds - 1));
            int now = model.allSpots(0).size();
            if (now < most) {
                model.dot(0, i, j, before);
            } else {
                most = now;
            }
        }
        PictureJoin x = new PictureJoin();
        x.rules(1, 2);
        x.shoot(20, 20, 0, 0, 1);
        for (int k = 0; k < 400; k++) {
            x.dot(0, k % 20, k / 20, model.at(0, k % 20, k / 20));
        }
        List<Model.Spot> spots = model.allSpots(0);
        Check.that("10: the model has more than 16: " + spots.size(), spots.size() > 16);
        Check.due("10: 16 at most", x.marks(0), 16);
        for (int m = 0; m < 16; m++) {
            Check.due("11: i of " + m, x.mark(0, m, 0), spots.get(m).i);
            Check.due("11: j of " + m, x.mark(0, m, 1), spots.get(m).j);
            Check.due("11: SCORE of " + m, x.mark(0, m, 2), spots.get(m).score);
            Check.due("11: SIGN of " + m, x.mark(0, m, 3), spots.get(m).sign);
        }
        Check.due("11: no 17th", x.mark(0, 16, 0), -1);
        int last = 0;
        for (int m = 1; m < spots.size(); m++) {
            boolean behind = spots.get(m).j * 20 + spots.get(m).i > spots.get(last).j * 20 + spots.get(last).i;
            last = behind ? m : last;
        }
        return last >= 16;
    }

    private static void signs() {
        PictureJoin x = plain(8, 8, Scene.PLAIN);
        Scene.spot(x, 0, 4, 4, Scene.SPOT);
        Check.due("11: i", x.mark(0, 0, 0), 4);
        Check.due("11: j", x.mark(0, 0, 1), 4);
        Check.due("11: SCORE", x.mark(0, 0, 2), Scene.HEIGHT);
        Check.due("11: SIGN where all are alike", x.mark(0, 0, 3), 0);
        for (int k = 0; k < 12; k++) {
            tellAndAskSign(x, 4 + 2 - k % 4, 4 + k % 5 - 2, Scene.PLAIN + 1, 1 << k);
            tellAndAskSign(x, 4 + k % 5 - 2, 4 + k % 3 - 1, Scene.PLAIN - 1, 1 << k);
        }
        tellAndAskSign(x, 4, 4, Scene.PLAIN + 1, 4);
        tellAndAskSign(x, 4, 4, Scene.PLAIN - 1, 128);
        tellAndAskSign(x, 5, 3, Scene.PLAIN + 1, 2);
        tellAndAskSign(x, 5, 3, Scene.PLAIN - 1, 8);
    }

    /** Tells a dot near the mark at 4, 4, asks for the sign, and tells the dot back. */
    private static void tellAndAskSign(PictureJoin x, int i, int j, int v, int sign) {
        int before = x.dot(0, i, j, v);
        Check.due("11: SIGN with " + v + " at " + i + ", " + j, x.mark(0, 0, 3), sign);
        Check.due("11: i with " + v + " at " + i + ", " + j, x.mark(0, 0, 0), 4);
        x.dot(0, i, j, before);
    }

    /** Only dots two to the left of a MARK can be lost and stand in its SIGN. */
    private static void signsOfLostDots() {
        PictureJoin x = plain(8, 8, 0);
        Scene.spot(x, 0, 4, 4, 200);
        x.dot(0, 2, 3, -1);
        Check.due("11: LOST is below 0, bit 0", x.mark(0, 0, 3), 1);
        x.dot(0, 2, 5, -1);
        Check.due("11: LOST is below 0, bit 5", x.mark(0, 0, 3), 1 | 32);
        x.dot(0, 2, 4, -1);
        Check.due("11: LOST is below 0, bit 10", x.mark(0, 0, 3), 1 | 32 | 1024);
        x.dot(0, 2, 3, 0);
        Check.due("11: told again", x.mark(0, 0, 3), 32 | 1024);
        x.dot(0, 4, 4, -1);
        Check.due("10: a lost MARK is none", x.marks(0), 0);
    }

    private static void refusals() {
        PictureJoin x = plain(8, 8, 10);
        Scene.spot(x, 0, 4, 4, 200);
        int[] noPictures = {-1, 1, 4, Integer.MAX_VALUE, Integer.MIN_VALUE};
        for (int p : noPictures) {
            Check.due("9: score of picture " + p, x.score(p, 4, 4), -1);
            Check.due("10: marks(" + p + ")", x.marks(p), -1);
            Check.due("11: mark(" + p + ", 0, 0)", x.mark(p, 0, 0), -1);
            Check.due("11: mark(" + p + ", 0, 9)", x.mark(p, 0, 9), -1);
        }
        int[] noDots = {-1, 8, 20, Integer.MAX_VALUE, Integer.MIN_VALUE};
        for (int n : noDots) {
            Check.due("9: score(0, " + n + ", 4)", x.score(0, n, 4), -1);
            Check.due("9: score(0, 4, " + n + ")", x.score(0, 4, n), -1);
        }
        int[] noMarks = {-1, 1, 15, 16, Integer.MAX_VALUE, Integer.MIN_VALUE};
        for (int m : noMarks) {
            Check.due("11: mark(0, " + m + ", 0)", x.mark(0, m, 0), -1);
            Check.due("11: UNKNOWN ahead of OUTSIDE, mark(0, " + m + ", 4)", x.mark(0, m, 4), -1);
        }
        int[] noWhat = {-1, 4, Integer.MAX_VALUE, Integer.MIN_VALUE};
        for (int what : noWhat) {
            Check.due("11: mark(0, 0, " + what + ")", x.mark(0, 0, what), -2);
        }
    }
}
