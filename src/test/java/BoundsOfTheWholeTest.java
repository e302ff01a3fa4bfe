import java.util.Random;

/**
 * Part 3 of the document, overlaps, lights, seams and the whole: each sentence that names a limit has a method
 * of its own here, which says the sentence. (What is refused, and in which order, stands in RefusalsTest too.)
 */
public final class BoundsOfTheWholeTest {
    private static final int UNKNOWN = -1, OUTSIDE = -2, NO = -5, NONE = -6;
    private static final int LOST = -1000000;
    private static final int MIN = Integer.MIN_VALUE, MAX = Integer.MAX_VALUE;
    private static final int A = 1, B = 16, C = 32, D = 256, E = 512, F = 1024;

    public static void main(String[] args) {
        overlapOfOneColumnOrNone();
        overlapOfOneRowOrNone();
        overlapOfOnePlace();
        overlapOfAll();
        overlapFromZeroToThree();
        lightsWhereNeitherIsLost();
        lightsOfNone();
        seamOfOneColumn();
        seamOfOneRow();
        seamOfOnePlace();
        seamFromItsCostToTheLastRow();
        seamAtTheEdges();
        seamOneColumnOffAtMost();
        seamFartherLeftFirst();
        seamOfLostDots();
        wholeFromTheFirstPlaceToTheLast();
        wholeOfTheOneJoinedFirst();
        wholeOfDotsThatAreTold();
        wholeFromZeroToOne();
        extentFromLeastToGreatest();
        extentOfPlacesWithADot();
        extentWithoutPictures();
        Check.end();
    }

    private static PictureJoin dim(int pictures, int w, int h) {
        PictureJoin x = new PictureJoin();
        x.rules(5000, 0);
        for (int p = 0; p < pictures; p++) {
            x.shoot(w, h, 50 * p, 70, 1);
        }
        return x;
    }

    /** Three pictures of 20 by 20, side by side or one above the other: 1 at first, 2 at first and second. */
    private static PictureJoin chain(int first, int second, boolean down) {
        PictureJoin x = dim(3, 20, 20);
        int[] steps = {first, second};
        int[][] signs = {{A, B}, {C, D}};
        for (int k = 0; k < 2; k++) {
            int from = steps[k] > 0 ? 15 : 5;
            for (int m = 0; m < 2; m++) {
                int beside = m == 0 ? 5 : 14;
                int to = from - steps[k];
                Scene.patch(x, k, down ? beside : from, down ? from : beside, signs[k][m]);
                Scene.patch(x, k + 1, down ? beside : to, down ? to : beside, signs[k][m]);
            }
        }
        Check.due("three are joined", x.joined(), 3);
        Check.due("where 2 lies", x.place(2, down ? 1 : 0), first + second);
        Check.due("where 2 lies beside", x.place(2, down ? 0 : 1), 0);
        return x;
    }

    /** Three pictures of 20 by 20: 1 nine behind 0, 2 ten ahead of it. */
    private static PictureJoin onBothSides(boolean down) {
        PictureJoin x = dim(3, 20, 20);
        int[][] marks = {{0, 15, A, B}, {1, 6, A, B}, {0, 5, C, D}, {2, 15, C, D}};
        for (int[] m : marks) {
            Scene.patch(x, m[0], down ? 5 : m[1], down ? m[1] : 5, m[2]);
            Scene.patch(x, m[0], down ? 14 : m[1], down ? m[1] : 14, m[3]);
        }
        Check.due("three are joined", x.joined(), 3);
        return x;
    }

    /** Four pictures on a slope: 1 at 7, 7, 2 at 13, 13, 3 at 19, 19: one place of both 0 and 3. */
    private static PictureJoin slope() {
        PictureJoin x = dim(4, 20, 20);
        Scene.patch(x, 0, 10, 10, A);
        Scene.patch(x, 0, 16, 16, B);
        Scene.patch(x, 1, 3, 3, A);
        Scene.patch(x, 1, 9, 9, B);
        for (int p = 1; p < 3; p++) {
            Scene.patch(x, p, 10, 16, p == 1 ? C : E);
            Scene.patch(x, p, 16, 10, p == 1 ? D : F);
            Scene.patch(x, p + 1, 4, 10, p == 1 ? C : E);
            Scene.patch(x, p + 1, 10, 4, p == 1 ? D : F);
        }
        Check.due("four are joined", x.joined(), 4);
        return x;
    }

    /** Two pictures of 12 by 8, the one upon the other, each dot of the one 30, of the other 40. */
    private static PictureJoin twoAlike() {
        PictureJoin x = dim(2, 12, 8);
        for (int p = 0; p < 2; p++) {
            Scene.plain(x, p, 30 + 10 * p);
            Scene.spot(x, p, 3, 3, 240);
            Scene.spot(x, p, 8, 4, 230);
            // bit 0 of the sign of the second mark
            x.dot(p, 10, 2, 32 + 10 * p);
        }
        Check.due("both are joined", x.joined(), 2);
        Check.due("x", x.place(1, 0), 0);
        Check.due("y", x.place(1, 1), 0);
        return x;
    }

    private static void dueOverlap(PictureJoin x, int a, int b, int... due) {
        for (int what = 0; what < 4; what++) {
            Check.due("overlap(" + a + ", " + b + ", " + what + ")", x.overlap(a, b, what), due[what]);
            Check.due("overlap(" + b + ", " + a + ", " + what + ")", x.overlap(b, a, what), due[what]);
        }
    }

    /** "places that both cover, a rectangle"; promise 17: "(all 0: there is none)". */
    private static void overlapOfOneColumnOrNone() {
        dueOverlap(chain(9, 9, false), 0, 2, 18, 0, 2, 20);
        dueOverlap(chain(9, 10, false), 0, 2, 19, 0, 1, 20);
        dueOverlap(chain(10, 10, false), 0, 2, 0, 0, 0, 0);
        dueOverlap(chain(11, 10, false), 0, 2, 0, 0, 0, 0);
        dueOverlap(chain(-9, -9, false), 0, 2, 0, 0, 2, 20);
        dueOverlap(chain(-9, -10, false), 0, 2, 0, 0, 1, 20);
        dueOverlap(chain(-10, -10, false), 0, 2, 0, 0, 0, 0);
        dueOverlap(chain(-11, -10, false), 0, 2, 0, 0, 0, 0);
    }

    /** As overlapOfOneColumnOrNone, one above the other. */
    private static void overlapOfOneRowOrNone() {
        dueOverlap(chain(9, 9, true), 0, 2, 0, 18, 20, 2);
        dueOverlap(chain(9, 10, true), 0, 2, 0, 19, 20, 1);
        dueOverlap(chain(10, 10, true), 0, 2, 0, 0, 0, 0);
        dueOverlap(chain(11, 10, true), 0, 2, 0, 0, 0, 0);
        dueOverlap(chain(-9, -9, true), 0, 2, 0, 0, 20, 2);
        dueOverlap(chain(-9, -10, true), 0, 2, 0, 0, 20, 1);
        dueOverlap(chain(-10, -10, true), 0, 2, 0, 0, 0, 0);
        dueOverlap(chain(-11, -10, true), 0, 2, 0, 0, 0, 0);
    }

    private static void overlapOfOnePlace() {
        PictureJoin x = slope();
        dueOverlap(x, 0, 3, 19, 19, 1, 1);
        dueOverlap(x, 0, 2, 13, 13, 7, 7);
        dueOverlap(x, 1, 3, 19, 19, 8, 8);
    }

    private static void overlapOfAll() {
        dueOverlap(twoAlike(), 0, 1, 0, 0, 12, 8);
    }

    /** Promises 17, 18: "0 x, 1 y, 2 width, 3 height"; "of a (what = 0), of b (1), how many DOTS (2)"; "OUTSIDE (LOST less 2)". */
    private static void overlapFromZeroToThree() {
        PictureJoin x = twoAlike();
        int[] not = {MIN, -1, 4, 5, MAX};
        for (int what : not) {
            Check.due("overlap(0, 1, " + what + ")", x.overlap(0, 1, what), LOST + OUTSIDE);
            Check.due("lights(0, 1, " + what + ")", x.lights(0, 1, what), LOST + OUTSIDE);
            Check.due("overlap(0, 0, " + what + ")", x.overlap(0, 0, what), LOST + UNKNOWN);
            Check.due("lights(1, 1, " + what + ")", x.lights(1, 1, what), LOST + UNKNOWN);
        }
        Check.due("lights(0, 1, 3)", x.lights(0, 1, 3), LOST + OUTSIDE);
        Check.due("overlap(0, 1, 3)", x.overlap(0, 1, 3), 8);
        Check.due("lights(0, 1, 2)", x.lights(0, 1, 2), 94);
    }

    private static void dueLights(PictureJoin x, int a, int b, int one, int other, int dots) {
        Check.due("lights(" + a + ", " + b + ", 0)", x.lights(a, b, 0), one);
        Check.due("lights(" + a + ", " + b + ", 1)", x.lights(a, b, 1), other);
        Check.due("lights(" + a + ", " + b + ", 2)", x.lights(a, b, 2), dots);
        Check.due("lights(" + b + ", " + a + ", 0)", x.lights(b, a, 0), other);
        Check.due("lights(" + b + ", " + a + ", 1)", x.lights(b, a, 1), one);
        Check.due("lights(" + b + ", " + a + ", 2)", x.lights(b, a, 2), dots);
    }

    /** "sums of DOTS there of the one and of the other, where neither is LOST": each corner lost in one, in the other, in both. */
    private static void lightsWhereNeitherIsLost() {
        PictureJoin x = twoAlike();
        // 96 places, two lost in both, two spots, one dot brighter by 2
        int one = 92 * 30 + 240 + 230 + 2;
        int other = 92 * 40 + 240 + 230 + 2;
        dueLights(x, 0, 1, one, other, 94);
        int[][] corners = {{0, 0}, {11, 0}, {0, 7}, {11, 7}};
        for (int[] c : corners) {
            x.dot(0, c[0], c[1], -1);
            dueLights(x, 0, 1, one - 30, other - 40, 93);
            x.dot(1, c[0], c[1], -1);
            dueLights(x, 0, 1, one - 30, other - 40, 93);
            x.dot(0, c[0], c[1], 30);
            dueLights(x, 0, 1, one - 30, other - 40, 93);
            x.dot(1, c[0], c[1], 0);
            dueLights(x, 0, 1, one, other - 40, 94);
            x.dot(1, c[0], c[1], 40);
        }
    }

    /** No place of both, and one place of both that is lost: all three are 0. */
    private static void lightsOfNone() {
        dueLights(chain(10, 10, false), 0, 2, 0, 0, 0);
        PictureJoin x = slope();
        x.dot(0, 19, 19, 200);
        x.dot(3, 0, 0, 50);
        dueLights(x, 0, 3, 200, 50, 1);
        x.dot(0, 19, 19, -1);
        dueLights(x, 0, 3, 0, 0, 0);
    }

    private static void dueSeam(PictureJoin x, int a, int b, int cost, int... columns) {
        Check.due("seam(" + a + ", " + b + ", -1)", x.seam(a, b, -1), cost);
        Check.due("seam(" + b + ", " + a + ", -1)", x.seam(b, a, -1), cost);
        for (int row = 0; row < columns.length; row++) {
            Check.due("seam(" + a + ", " + b + ", " + row + ")", x.seam(a, b, row), columns[row]);
        }
        int[] not = {MIN, -3, -2, columns.length, columns.length + 1, MAX};
        for (int row : not) {
            Check.due("seam(" + a + ", " + b + ", " + row + "), no such row", x.seam(a, b, row), NONE);
        }
    }

    /** "A SEAM of a, b goes through all rows of their OVERLAP": twenty rows of one column; and no OVERLAP. */
    private static void seamOfOneColumn() {
        PictureJoin x = chain(9, 10, false);
        for (int row = 0; row < 20; row++) {
            x.dot(0, 19, row, 100);
            x.dot(2, 0, row, row % 2 == 0 ? 100 + row : 100 - row);
        }
        dueSeam(x, 0, 2, 190, new int[20]);
        PictureJoin none = chain(10, 10, false);
        dueSeam(none, 0, 2, NONE);
    }

    /** One row of twenty columns: the least difference, the farthest left of several. */
    private static void seamOfOneRow() {
        PictureJoin x = chain(9, 10, true);
        for (int column = 0; column < 20; column++) {
            x.dot(0, column, 19, 100);
            x.dot(2, column, 0, 90);
        }
        dueSeam(x, 0, 2, 10, 0);
        x.dot(2, 19, 0, 91);
        dueSeam(x, 0, 2, 9, 19);
        x.dot(2, 7, 0, 109);
        dueSeam(x, 0, 2, 9, 7);
        x.dot(2, 8, 0, 91);
        dueSeam(x, 0, 2, 9, 7);
        PictureJoin none = chain(10, 10, true);
        dueSeam(none, 0, 2, NONE);
    }

    private static void seamOfOnePlace() {
        PictureJoin x = slope();
        x.dot(0, 19, 19, 255);
        x.dot(3, 0, 0, 0);
        dueSeam(x, 0, 3, 255, 0);
        x.dot(3, 0, 0, 255);
        dueSeam(x, 0, 3, 0, 0);
        x.dot(3, 0, 0, -1);
        dueSeam(x, 0, 3, 255, 0);
    }

    /** Promise 19: "the column .. in row i; i = -1: what it costs. NONE: no OVERLAP, no such row". */
    private static void seamFromItsCostToTheLastRow() {
        PictureJoin x = twoAlike();
        // 10 a row, but 0 at the spots: column 4 of row 3 and column 9 of row 4
        dueSeam(x, 0, 1, 70, 1, 2, 3, 4, 3, 2, 1, 0);
        int[] notThere = {MIN, -1, 2, MAX};
        for (int b : notThere) {
            Check.due("seam(0, " + b + ", 0)", x.seam(0, b, 0), UNKNOWN);
            Check.due("seam(" + b + ", 0, 99)", x.seam(b, 0, 99), UNKNOWN);
        }
        Check.due("seam(1, 1, 0)", x.seam(1, 1, 0), UNKNOWN);
        x.rules(1000000, 0);
        for (int row = -2; row < 9; row++) {
            Check.due("seam(0, 1, " + row + ") of one not JOINED", x.seam(0, 1, row), NO);
        }
    }

    /** All rows along the first column, then along the last: no way leaves the OVERLAP. */
    private static void seamAtTheEdges() {
        PictureJoin x = twoAlike();
        for (int row = 0; row < 8; row++) {
            x.dot(1, 11, row, 31);
            x.dot(0, 11, row, 30);
        }
        dueSeam(x, 0, 1, 8, 11, 11, 11, 11, 11, 11, 11, 11);
        for (int row = 0; row < 8; row++) {
            x.dot(1, 0, row, 31);
        }
        dueSeam(x, 0, 1, 8, 0, 0, 0, 0, 0, 0, 0, 0);
    }

    /** "by one column each, from row to row one column off at most": a dot two columns off is out of reach. */
    private static void seamOneColumnOffAtMost() {
        for (int off = -3; off <= 3; off++) {
            PictureJoin x = twoAlike();
            // 10 a row, but 0 at column 4 of row 3, here, and there
            x.dot(1, 3, 6, 30);
            x.dot(1, 3 + off, 7, 30);
            boolean inReach = Math.abs(off) <= 1;
            Check.due("cost where it is " + off + " off", x.seam(0, 1, -1), inReach ? 50 : 60);
            for (int row = 1; row < 8; row++) {
                int step = Math.abs(x.seam(0, 1, row) - x.seam(0, 1, row - 1));
                Check.that("a step of " + step + " to row " + row, step <= 1);
            }
            if (inReach) {
                Check.due("column of row 6", x.seam(0, 1, 6), 3);
                Check.due("column of row 7", x.seam(0, 1, 7), 3 + off);
            }
        }
    }

    /**
     * "of several the one that is farther left in the first row in which they differ": against all ways there
     * are, on dots of few kinds.
     */
    private static void seamFartherLeftFirst() {
        Random random = new Random(19);
        int several = 0;
        for (int run = 0; run < 60; run++) {
            PictureJoin x = twoAlike();
            for (int k = 0; k < 36; k++) {
                // dots that no mark asks for
                int column = k % 12;
                int row = k < 12 ? 0 : k < 24 ? 7 : column < 6 ? 6 : 1;
                x.dot(1, column, row, 40 - random.nextInt(2));
            }
            Check.due("both are still joined", x.joined(), 2);
            int[] costs = new int[96];
            for (int k = 0; k < 96; k++) {
                int one = x.at(0, k % 12, k / 12);
                int other = x.at(1, k % 12, k / 12);
                costs[k] = one < 0 || other < 0 ? 255 : Math.abs(one - other);
            }
            Ways ways = new Ways(costs);
            dueSeam(x, 0, 1, ways.least, ways.best);
            several += ways.several > 1 ? 1 : 0;
        }
        Check.that("more than one way was the cheapest: " + several, several > 50);
    }

    /** All ways from above, those farther left first. */
    private static final class Ways {
        private final int[] costs;
        private final int[] way = new int[8];
        private final int[] best = new int[8];
        private int least = MAX;
        private int several = 0;

        Ways(int[] costs) {
            this.costs = costs;
            go(0, 0);
        }

        private void go(int row, int cost) {
            if (row == 8) {
                several = cost < least ? 1 : cost == least ? several + 1 : several;
                if (cost < least) {
                    least = cost;
                    System.arraycopy(way, 0, best, 0, 8);
                }
                return;
            }
            for (int column = 0; column < 12; column++) {
                if (row == 0 || Math.abs(column - way[row - 1]) <= 1) {
                    way[row] = column;
                    go(row + 1, cost + costs[row * 12 + column]);
                }
            }
        }
    }

    /** "the sum of sizes of differences of both DOTS there (255, where one is LOST)": in the one, the other, in both. */
    private static void seamOfLostDots() {
        for (int lost = 1; lost < 4; lost++) {
            PictureJoin x = twoAlike();
            for (int column = 0; column < 12; column++) {
                if ((lost & 1) != 0) {
                    x.dot(0, column, 7, -1);
                }
                if ((lost & 2) != 0) {
                    x.dot(1, column, 7, -1);
                }
            }
            dueSeam(x, 0, 1, 60 + 255, 1, 2, 3, 4, 3, 2, 1, 0);
            x.dot(0, 11, 7, 0);
            x.dot(1, 11, 7, 255);
            Check.due("a difference of 255 costs as much as a lost dot", x.seam(0, 1, -1), 60 + 255);
            x.dot(0, 0, 7, 1);
            x.dot(1, 0, 7, 255);
            dueSeam(x, 0, 1, 60 + 254, 1, 2, 3, 4, 3, 2, 1, 0);
        }
    }

    private static void dueWhole(PictureJoin x, int px, int py, int dot, int picture) {
        Check.due("whole(" + px + ", " + py + ", 0)", x.whole(px, py, 0), dot);
        Check.due("whole(" + px + ", " + py + ", 1)", x.whole(px, py, 1), picture);
    }

    /** "at a place the DOT of the PICTURE .. that cover it"; promise 20: "NONE: there is none". */
    private static void wholeFromTheFirstPlaceToTheLast() {
        int[][] sides = {{8, 20}, {20, 8}};
        for (int[] s : sides) {
            PictureJoin x = new PictureJoin();
            x.seed(6);
            x.shoot(s[0], s[1], 500, 600, 16);
            int[] columns = {MIN, MIN + 1, -1, 0, s[0] - 1, s[0], 20, MAX};
            int[] rows = {MIN, MIN + 1, -1, 0, s[1] - 1, s[1], 20, MAX};
            for (int px : columns) {
                for (int py : rows) {
                    boolean there = px >= 0 && px < s[0] && py >= 0 && py < s[1];
                    dueWhole(x, px, py, there ? x.light(500 + px, 600 + py) : NONE, there ? 0 : NONE);
                }
            }
        }
        PictureJoin left = chain(-9, -10, false);
        dueWhole(left, -19, 0, left.at(2, 0, 0), 2);
        dueWhole(left, -20, 0, NONE, NONE);
        dueWhole(left, 19, 19, left.at(0, 19, 19), 0);
        dueWhole(left, 20, 19, NONE, NONE);
        dueWhole(left, MAX, 0, NONE, NONE);
        dueWhole(left, MAX - 18, 0, NONE, NONE);
        dueWhole(left, MIN, 0, NONE, NONE);
        PictureJoin up = chain(-9, -10, true);
        dueWhole(up, 0, -19, up.at(2, 0, 0), 2);
        dueWhole(up, 0, -20, NONE, NONE);
        dueWhole(up, 19, 20, NONE, NONE);
        dueWhole(up, 0, MAX, NONE, NONE);
        dueWhole(up, 0, MAX - 18, NONE, NONE);
    }

    /** "that was JOINED first (0 first)": 2 is joined ahead of 1. */
    private static void wholeOfTheOneJoinedFirst() {
        PictureJoin x = dim(3, 20, 20);
        int[] signs = {A, B, C};
        for (int k = 0; k < 3; k++) {
            Scene.patch(x, 0, 4 + 6 * k, 4, signs[k]);
            Scene.patch(x, 2, 4 + 6 * k, 4, signs[k]);
            if (k < 2) {
                Scene.patch(x, 1, 4 + 6 * k, 4, signs[k]);
            }
        }
        Check.due("2 is the first joined", x.place(2, 3), 1);
        Check.due("1 is the second joined", x.place(1, 3), 2);
        for (int p = 0; p < 3; p++) {
            x.dot(p, 19, 19, 100 + p);
        }
        dueWhole(x, 19, 19, 100, 0);
        x.dot(0, 19, 19, -1);
        dueWhole(x, 19, 19, 102, 2);
        x.dot(2, 19, 19, -1);
        dueWhole(x, 19, 19, 101, 1);
        x.dot(1, 19, 19, -1);
        dueWhole(x, 19, 19, NONE, NONE);
        x.dot(2, 19, 19, 7);
        dueWhole(x, 19, 19, 7, 2);
        x.dot(0, 19, 19, 0);
        dueWhole(x, 19, 19, 0, 0);
    }

    /** "with one that is not LOST": a dot of 0 is told; "of all JOINED ones": 1 is not. */
    private static void wholeOfDotsThatAreTold() {
        PictureJoin x = dim(2, 8, 8);
        Check.due("1 is not joined", x.joined(), 1);
        int[] told = {255, 1, 0};
        for (int v : told) {
            x.dot(0, 7, 7, v);
            dueWhole(x, 7, 7, v, 0);
        }
        x.dot(0, 7, 7, -1);
        dueWhole(x, 7, 7, NONE, NONE);
    }

    /** Promise 20: "the DOT at a place (what = 0), the PICTURE of which it is (1); .. OUTSIDE". */
    private static void wholeFromZeroToOne() {
        PictureJoin x = new PictureJoin();
        int[] not = {MIN, -1, 2, 3, MAX};
        for (int k = 0; k < 2; k++) {
            for (int what : not) {
                Check.due("whole(0, 0, " + what + ")", x.whole(0, 0, what), OUTSIDE);
                Check.due("whole(-1, 99, " + what + ")", x.whole(-1, 99, what), OUTSIDE);
            }
            dueWhole(x, 0, 0, k == 0 ? NONE : 77, k == 0 ? NONE : 0);
            x.shoot(8, 8, 0, 0, 1);
            x.dot(0, 0, 0, 77);
        }
    }

    private static void dueExtent(PictureJoin x, int... due) {
        for (int what = 0; what < due.length; what++) {
            Check.due("extent(" + what + ")", x.extent(what), due[what]);
        }
        int[] not = {MIN, -2, -1, 5, 6, MAX};
        for (int what : not) {
            Check.due("extent(" + what + ")", x.extent(what), LOST + OUTSIDE);
        }
    }

    /** Promise 21: "0 least x, 1 least y, 2 greatest x, 3 greatest y that a JOINED PICTURE covers". */
    private static void extentFromLeastToGreatest() {
        dueExtent(chain(9, 10, false), 0, 0, 38, 19);
        dueExtent(chain(-9, -10, false), -19, 0, 19, 19);
        dueExtent(chain(9, 10, true), 0, 0, 19, 38);
        dueExtent(chain(-9, -10, true), 0, -19, 19, 19);
        dueExtent(onBothSides(false), -10, 0, 28, 19);
        dueExtent(onBothSides(true), 0, -10, 19, 28);
        dueExtent(slope(), 0, 0, 38, 38);
        PictureJoin x = new PictureJoin();
        x.shoot(8, 9, 0, 0, 1);
        x.shoot(20, 20, 0, 0, 1);
        dueExtent(x, 0, 0, 7, 8, 72);
        for (int k = 0; k < 72; k++) {
            x.dot(0, k % 8, k / 8, -1);
        }
        // covered, though all its dots are lost
        dueExtent(x, 0, 0, 7, 8, 0);
    }

    /** Promise 21: "4 how many places have a DOT": a place of two pictures is one. */
    private static void extentOfPlacesWithADot() {
        PictureJoin x = twoAlike();
        Check.due("extent(4)", x.extent(4), 94);
        x.dot(0, 0, 0, -1);
        Check.due("lost in 0", x.extent(4), 94);
        x.dot(1, 0, 0, -1);
        Check.due("lost in both", x.extent(4), 93);
        x.dot(0, 0, 0, 0);
        Check.due("a dot of 0", x.extent(4), 94);
        x.dot(1, 11, 7, -1);
        Check.due("lost in 1", x.extent(4), 94);
        // each of four marks has a lost dot at its right, told by neither
        Check.due("side by side", chain(10, 10, false).extent(4), 800 - 4);
        Check.due("one column of both", chain(9, 10, false).extent(4), 780 - 4);
    }

    /** Promise 21: "OUTSIDE (LOST less 2); NO: there are no PICTURES (LOST less 5)". */
    private static void extentWithoutPictures() {
        PictureJoin x = new PictureJoin();
        int no = LOST + NO;
        dueExtent(x, no, no, no, no, no);
        x.shoot(8, 8, 0, 0, 64);
        dueExtent(x, 0, 0, 7, 7, 64);
        x.clear();
        dueExtent(x, no, no, no, no, no);
    }
}
