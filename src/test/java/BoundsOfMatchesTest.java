/**
 * Part 2 of the document, matches, shifts and places: each sentence that names a limit has a method of its
 * own here, which says the sentence. (What is refused, and in which order, stands in RefusalsTest too.)
 */
public final class BoundsOfMatchesTest {
    private static final int UNKNOWN = -1, OUTSIDE = -2, NO = -5, NONE = -6;
    private static final int LOST = -1000000;
    private static final int MIN = Integer.MIN_VALUE, MAX = Integer.MAX_VALUE;
    /** Signs that are unlike. */
    private static final int A = 1, B = 16, C = 32, D = 256, E = 512, F = 1024, G = 17, H = 33;
    /** Where nine patches have room, if places are 0 or 1, and alike for all marks of one row. */
    private static final int[] GRID = {4, 10, 16};

    public static void main(String[] args) {
        nearOfEachDistance();
        nearOfTwoAtFirst();
        firstOfSeveralFromA();
        firstOfSeveralFromB();
        leastBothWays();
        matchWithoutMarks();
        matchOfEachMark();
        twoVotesAtLeast();
        mostVotes();
        leastXThenLeastY();
        shiftFromZeroToThree();
        zeroLiesAtZero();
        joinedByTwoVotes();
        joinedByTheMostVotes();
        joinedByTheLeastA();
        joinedTheLeastBFirst();
        joinedOneToFour();
        placeFromZeroToFive();
        openByOneOff();
        openByTheShiftOfTheLess();
        notOpenIfJoinedByTheOther();
        notOpenIfNotJoined();
        openOfSeveral();
        Check.end();
    }

    /** Pictures of 20 by 20, too dim for marks of their own. */
    private static PictureJoin dim(int pictures, int near) {
        PictureJoin x = new PictureJoin();
        x.rules(5000, near);
        for (int p = 0; p < pictures; p++) {
            x.shoot(20, 20, 50 * p, 70, 1);
        }
        return x;
    }

    /** A mark of a picture that lies (or does not) at px, py: it is given by its place in the whole. */
    private static void mark(PictureJoin x, int picture, int px, int py, int column, int row, int sign) {
        Scene.patch(x, picture, GRID[column] - px, GRID[row] - py, sign);
    }

    private static void dueShift(PictureJoin x, int a, int b, int dx, int dy, int votes, int matches) {
        int[] due = {dx, dy, votes, matches};
        for (int what = 0; what < 4; what++) {
            Check.due("shift(" + a + ", " + b + ", " + what + ")", x.shift(a, b, what), due[what]);
        }
    }

    private static void duePlace(PictureJoin x, int picture, int px, int py, int by, int rank) {
        int[] due = {px, py, by, rank, 20, 20};
        for (int what = 0; what < 6; what++) {
            Check.due("place(" + picture + ", " + what + ")", x.place(picture, what), due[what]);
        }
    }

    /** Two pictures with one mark each, of these signs. */
    private static PictureJoin twoSigns(int sign, int other, int near) {
        PictureJoin x = new PictureJoin();
        x.shoot(8, 8, 0, 0, 1);
        x.shoot(8, 8, 0, 0, 1);
        Scene.patch(x, 0, 4, 4, sign);
        Scene.patch(x, 1, 3, 3, other);
        if (near >= 0) {
            x.rules(5000, near);
        }
        return x;
    }

    /** "and this is NEAR (0 to 12; ..) or less": each DISTANCE that there is, with NEAR one less, the same, one more. */
    private static void nearOfEachDistance() {
        for (int distance = 0; distance <= 12; distance++) {
            int sign = (1 << distance) - 1;
            for (int near = Math.max(0, distance - 1); near <= Math.min(12, distance + 1); near++) {
                int due = near >= distance ? 0 : NONE;
                PictureJoin x = twoSigns(0, sign, near);
                Check.due("the sign", x.mark(1, 0, 3), sign);
                Check.due("match of " + distance + " off, NEAR " + near, x.match(0, 0, 1), due);
                Check.due("the other way", x.match(1, 0, 0), due);
                PictureJoin y = twoSigns(~sign & 4095, 4095, near);
                Check.due("match of " + distance + " off, NEAR " + near, y.match(0, 0, 1), due);
                Check.due("MATCHES", y.shift(0, 1, 3), due == 0 ? 1 : 0);
            }
        }
    }

    /** "2 at first". */
    private static void nearOfTwoAtFirst() {
        int[] signs = {0, 1, 3, 7};
        for (int distance = 0; distance < 4; distance++) {
            PictureJoin x = twoSigns(0, signs[distance], -1);
            Check.due("NEAR at first, " + distance + " off", x.match(0, 0, 1), distance <= 2 ? 0 : NONE);
        }
    }

    /** "if j is the MARK of b with the least DISTANCE from i, of several the first". */
    private static void firstOfSeveralFromA() {
        PictureJoin x = dim(2, 12);
        mark(x, 0, 0, 0, 1, 1, A);
        mark(x, 1, 0, 0, 0, 0, A);
        mark(x, 1, 0, 0, 2, 2, A);
        Check.due("two are like it", x.marks(1), 2);
        Check.due("the first", x.match(0, 0, 1), 0);
        Check.due("it has the mark of a", x.match(1, 0, 0), 0);
        Check.due("the second has none", x.match(1, 1, 0), NONE);
    }

    /** "i that of a with the least from j, likewise". */
    private static void firstOfSeveralFromB() {
        PictureJoin x = dim(2, 12);
        mark(x, 0, 0, 0, 0, 0, A);
        mark(x, 0, 0, 0, 2, 2, A);
        mark(x, 1, 0, 0, 1, 1, A);
        Check.due("two are like it", x.marks(0), 2);
        Check.due("the first has it", x.match(0, 0, 1), 0);
        Check.due("the second has none, though it has no nearer one", x.match(0, 1, 1), NONE);
        Check.due("back", x.match(1, 0, 0), 0);
        Check.due("MATCHES", x.shift(0, 1, 3), 1);
    }

    /** Both ways: a mark whose least is nearer to another has none, also with NEAR 12. */
    private static void leastBothWays() {
        PictureJoin x = dim(2, 12);
        mark(x, 0, 0, 0, 0, 0, 0);
        mark(x, 0, 0, 0, 2, 2, 1);
        mark(x, 1, 0, 0, 1, 1, 3);
        int nearer = x.mark(0, 0, 3) == 1 ? 0 : 1;
        Check.due("one off", x.match(0, nearer, 1), 0);
        Check.due("two off", x.match(0, 1 - nearer, 1), NONE);
    }

    /** Promise 12: "NONE": b has no MARKS, or has none any more. */
    private static void matchWithoutMarks() {
        PictureJoin x = dim(2, 12);
        mark(x, 0, 0, 0, 0, 0, 0);
        Check.due("b has none yet", x.match(0, 0, 1), NONE);
        mark(x, 1, 0, 0, 1, 1, 0);
        Check.due("b has one", x.match(0, 0, 1), 0);
        x.dot(1, 10, 10, -1);
        Check.due("b has none any more", x.match(0, 0, 1), NONE);
        Check.due("no MARK of b", x.match(1, 0, 0), UNKNOWN);
        Check.due("MATCHES", x.shift(0, 1, 3), 0);
    }

    /** Promise 12: "UNKNOWN: also a and b are one": no mark but those that there are. */
    private static void matchOfEachMark() {
        PictureJoin x = dim(3, 0);
        mark(x, 0, 0, 0, 0, 0, A);
        mark(x, 0, 0, 0, 1, 0, B);
        mark(x, 1, 0, 0, 0, 0, A);
        int[] marks = {MIN, -1, 0, 1, 2, 15, 16, MAX};
        for (int m : marks) {
            boolean there = m == 0 || m == 1;
            int due = !there ? UNKNOWN : x.mark(0, m, 3) == A ? 0 : NONE;
            Check.due("match(0, " + m + ", 1)", x.match(0, m, 1), due);
            Check.due("match(0, " + m + ", 2), 2 has no MARKS", x.match(0, m, 2), there ? NONE : UNKNOWN);
            Check.due("match(2, " + m + ", 0), 2 has no MARKS", x.match(2, m, 0), UNKNOWN);
            Check.due("match(0, " + m + ", 0)", x.match(0, m, 0), UNKNOWN);
        }
        int[] pictures = {MIN, -1, 3, 4, MAX};
        for (int p : pictures) {
            Check.due("match(" + p + ", 0, 1)", x.match(p, 0, 1), UNKNOWN);
            Check.due("match(0, 0, " + p + ")", x.match(0, 0, p), UNKNOWN);
        }
    }

    /** "with the most votes, 2 at least, ..; there may be none"; promise 13: "2 votes (0: there is none), 3 MATCHES". */
    private static void twoVotesAtLeast() {
        PictureJoin x = dim(2, 0);
        dueShift(x, 0, 1, LOST + NO, LOST + NO, 0, 0);
        mark(x, 0, 0, 0, 0, 0, A);
        mark(x, 1, 1, 0, 0, 0, A);
        dueShift(x, 0, 1, LOST + NO, LOST + NO, 0, 1);
        mark(x, 0, 0, 0, 1, 1, B);
        mark(x, 1, 0, 0, 1, 1, B);
        dueShift(x, 0, 1, LOST + NO, LOST + NO, 0, 2);
        dueShift(x, 1, 0, LOST + NO, LOST + NO, 0, 2);
        mark(x, 0, 0, 0, 2, 2, C);
        mark(x, 1, 1, 0, 2, 2, C);
        dueShift(x, 0, 1, 1, 0, 2, 3);
        dueShift(x, 1, 0, -1, 0, 2, 3);
    }

    /** "THE SHIFT of a, b is that with the most votes": three for the greater x and y, two for the less. */
    private static void mostVotes() {
        PictureJoin x = dim(2, 0);
        int[] three = {A, B, C};
        for (int k = 0; k < 3; k++) {
            mark(x, 0, 0, 0, k, 0, three[k]);
            mark(x, 1, 1, 1, k, 0, three[k]);
        }
        int[] two = {D, E};
        for (int k = 0; k < 2; k++) {
            mark(x, 0, 0, 0, k, 2, two[k]);
            mark(x, 1, 0, 0, k, 2, two[k]);
        }
        dueShift(x, 0, 1, 1, 1, 3, 5);
        dueShift(x, 1, 0, -1, -1, 3, 5);
    }

    /** "of several the one with the least x, then the least y". */
    private static void leastXThenLeastY() {
        int[][] twos = {{1, 0, 0, 1}, {0, 1, 1, 0}, {0, 0, 1, 0}, {1, 1, 0, 1}, {0, 1, 0, 0}, {0, 0, 0, 1}, {1, 0, 1, 1}, {1, 1, 1, 0}};
        for (int[] t : twos) {
            PictureJoin x = dim(2, 0);
            int[] signs = {A, B, C, D};
            for (int k = 0; k < 4; k++) {
                mark(x, 0, 0, 0, k % 2, k / 2 * 2, signs[k]);
                mark(x, 1, t[k / 2 * 2], t[k / 2 * 2 + 1], k % 2, k / 2 * 2, signs[k]);
            }
            boolean first = t[0] < t[2] || t[0] == t[2] && t[1] < t[3];
            int due = first ? 0 : 2;
            dueShift(x, 0, 1, t[due], t[due + 1], 2, 4);
            // the other way all signs turn: of these the other one is the least
            dueShift(x, 1, 0, -t[2 - due], -t[3 - due], 2, 4);
            duePlace(x, 1, t[due], t[due + 1], 0, 1);
        }
    }

    /** Promise 13: "0 x, 1 y, 2 votes .., 3 MATCHES. UNKNOWN ..; OUTSIDE ..; NO: x, y where there is none". */
    private static void shiftFromZeroToThree() {
        PictureJoin x = dim(2, 0);
        int[] pictures = {MIN, -1, 2, 3, 4, MAX};
        int[] not = {MIN, -1, 4, 5, MAX};
        for (int what : not) {
            Check.due("shift(0, 1, " + what + ") without a SHIFT", x.shift(0, 1, what), LOST + OUTSIDE);
            for (int p : pictures) {
                Check.due("shift(0, " + p + ", " + what + ")", x.shift(0, p, what), LOST + UNKNOWN);
            }
        }
        for (int what = 0; what < 4; what++) {
            Check.due("shift(0, 1, " + what + ") without a SHIFT", x.shift(0, 1, what), what < 2 ? LOST + NO : 0);
            for (int p : pictures) {
                Check.due("shift(" + p + ", 0, " + what + ")", x.shift(p, 0, what), LOST + UNKNOWN);
            }
            Check.due("shift(0, 0, " + what + ")", x.shift(0, 0, what), LOST + UNKNOWN);
        }
    }

    /** "PICTURE 0 lies at 0, 0"; promise 14: "2 by which one it was JOINED (NONE: 0 itself), 3 as how manieth (0 first)". */
    private static void zeroLiesAtZero() {
        PictureJoin x = new PictureJoin();
        Check.due("no picture 0 yet", x.place(0, 0), LOST + UNKNOWN);
        Check.due("none is joined yet", x.joined(), 0);
        x.shoot(20, 20, 1900, 1900, 64);
        duePlace(x, 0, 0, 0, NONE, 0);
        Check.due("it is joined", x.joined(), 1);
        Check.due("nothing is open", x.open(), 0);
        x.rules(1000000, 0);
        duePlace(x, 0, 0, 0, NONE, 0);
        Check.due("it is joined without marks too", x.joined(), 1);
    }

    /** "one that is not, b, with a SHIFT": one vote does not join, two do. */
    private static void joinedByTwoVotes() {
        PictureJoin x = dim(2, 0);
        mark(x, 0, 0, 0, 0, 0, A);
        mark(x, 1, 1, -1, 0, 0, A);
        Check.due("by one vote", x.joined(), 1);
        for (int what = 0; what < 4; what++) {
            Check.due("not joined: place(1, " + what + ")", x.place(1, what), LOST + NO);
        }
        mark(x, 0, 0, 0, 1, 1, B);
        mark(x, 1, 1, -1, 1, 1, B);
        Check.due("by two votes", x.joined(), 2);
        duePlace(x, 1, 1, -1, 0, 1);
    }

    /** "the one with the most votes": 1 by two votes of 0; then 2 by three votes of 1, not by two of 0. */
    private static void joinedByTheMostVotes() {
        PictureJoin x = dim(3, 0);
        mark(x, 0, 0, 0, 0, 0, A);
        mark(x, 0, 0, 0, 1, 0, B);
        mark(x, 1, 1, 0, 0, 0, A);
        mark(x, 1, 1, 0, 1, 0, B);
        mark(x, 2, 0, 1, 0, 0, A);
        mark(x, 2, 0, 1, 1, 0, B);
        duePlace(x, 1, 1, 0, 0, 1);
        duePlace(x, 2, 0, 1, 0, 2);
        Check.due("all close", x.open(), 0);
        mark(x, 1, 1, 0, 0, 2, C);
        mark(x, 2, 0, 1, 0, 2, C);
        duePlace(x, 1, 1, 0, 0, 1);
        duePlace(x, 2, 0, 1, 1, 2);
        Check.due("all close", x.open(), 0);
    }

    /** "(of several the least a, ..)": 2 has two votes of 0 and two of 1, which do not fit. */
    private static void joinedByTheLeastA() {
        PictureJoin x = dim(3, 0);
        mark(x, 0, 0, 0, 0, 0, A);
        mark(x, 0, 0, 0, 1, 0, B);
        mark(x, 1, 0, 0, 0, 0, A);
        mark(x, 1, 0, 0, 1, 0, B);
        mark(x, 0, 0, 0, 0, 1, E);
        mark(x, 0, 0, 0, 1, 1, F);
        mark(x, 2, 1, 1, 0, 1, E);
        mark(x, 2, 1, 1, 1, 1, F);
        mark(x, 1, 0, 0, 0, 2, C);
        mark(x, 1, 0, 0, 1, 2, D);
        mark(x, 2, 0, 0, 0, 2, C);
        mark(x, 2, 0, 0, 1, 2, D);
        dueShift(x, 1, 2, 0, 0, 2, 2);
        duePlace(x, 1, 0, 0, 0, 1);
        duePlace(x, 2, 1, 1, 0, 2);
        Check.due("the loop does not close", x.open(), 1);
    }

    /** "(.., then the least b)": 1, 2 and 3 have two votes of 0 each. */
    private static void joinedTheLeastBFirst() {
        PictureJoin x = dim(4, 0);
        int[][] places = {{0, 0}, {1, 0}, {0, 1}, {-1, -1}};
        for (int p = 0; p < 4; p++) {
            mark(x, p, places[p][0], places[p][1], 0, 0, A);
            mark(x, p, places[p][0], places[p][1], 1, 1, B);
        }
        for (int p = 0; p < 4; p++) {
            duePlace(x, p, places[p][0], places[p][1], p == 0 ? NONE : 0, p);
        }
        Check.due("four are joined", x.joined(), 4);
        Check.due("all close", x.open(), 0);
    }

    /** Promise 16: "How many PICTURES are JOINED"; promise 14: "3 as how manieth": a chain from 0 by 3 and 2 to 1. */
    private static void joinedOneToFour() {
        PictureJoin x = dim(4, 0);
        int[][] links = {{0, 3, A, B}, {3, 2, C, D}, {2, 1, E, F}};
        int[][] places = {{0, 0}, {0, 1}, {1, 1}, {1, 0}};
        for (int k = 0; k < 3; k++) {
            Check.due("joined()", x.joined(), k + 1);
            for (int end = 0; end < 2; end++) {
                int p = links[k][end];
                mark(x, p, places[p][0], places[p][1], 0, k, links[k][2]);
                mark(x, p, places[p][0], places[p][1], 2, k, links[k][3]);
            }
            duePlace(x, links[k][1], places[links[k][1]][0], places[links[k][1]][1], links[k][0], k + 1);
        }
        Check.due("joined()", x.joined(), 4);
        Check.due("open()", x.open(), 0);
    }

    /** Promise 14: "0 x, 1 y .., 4 w, 5 h. UNKNOWN ..; OUTSIDE ..; NO: it is not JOINED (..; not of 4, 5)". */
    private static void placeFromZeroToFive() {
        PictureJoin x = new PictureJoin();
        x.shoot(8, 20, 0, 0, 1);
        x.shoot(20, 8, 0, 0, 1);
        int[] not = {MIN, -1, 6, 7, MAX};
        for (int what : not) {
            Check.due("place(0, " + what + ")", x.place(0, what), LOST + OUTSIDE);
            Check.due("place(1, " + what + ")", x.place(1, what), LOST + OUTSIDE);
            Check.due("place(2, " + what + ")", x.place(2, what), LOST + UNKNOWN);
            Check.due("place(-1, " + what + ")", x.place(-1, what), LOST + UNKNOWN);
        }
        int[] joined = {0, 0, NONE, 0, 8, 20};
        int[] other = {LOST + NO, LOST + NO, LOST + NO, LOST + NO, 20, 8};
        for (int what = 0; what < 6; what++) {
            Check.due("place(0, " + what + ")", x.place(0, what), joined[what]);
            Check.due("place(1, " + what + ")", x.place(1, what), other[what]);
            Check.due("place(2, " + what + ")", x.place(2, what), LOST + UNKNOWN);
            Check.due("place(-1, " + what + ")", x.place(-1, what), LOST + UNKNOWN);
        }
    }

    /** 1 and 2 are joined by 0, at 1, 0 and 0, 1; they have two marks more, of 2 told as if it lay at px, py. */
    private static PictureJoin loop(int px, int py) {
        PictureJoin x = dim(3, 0);
        mark(x, 0, 0, 0, 0, 0, A);
        mark(x, 0, 0, 0, 1, 0, B);
        mark(x, 0, 0, 0, 1, 1, E);
        mark(x, 0, 0, 0, 2, 1, F);
        mark(x, 1, 1, 0, 0, 0, A);
        mark(x, 1, 1, 0, 1, 0, B);
        mark(x, 2, 0, 1, 1, 1, E);
        mark(x, 2, 0, 1, 2, 1, F);
        mark(x, 1, 1, 0, 0, 2, C);
        mark(x, 1, 1, 0, 1, 2, D);
        mark(x, 2, px, py, 0, 2, C);
        mark(x, 2, px, py, 1, 2, D);
        return x;
    }

    /** "is OPEN, if the place of b is not that of a and THE SHIFT": as it is, one off in x, in y, in both. */
    private static void openByOneOff() {
        int[][] told = {{0, 1, 0}, {1, 1, 1}, {-1, 1, 1}, {0, 0, 1}, {0, 2, 1}, {1, 0, 1}, {-1, 2, 1}};
        for (int[] t : told) {
            PictureJoin x = loop(t[0], t[1]);
            dueShift(x, 1, 2, t[0] - 1, t[1], 2, 2);
            duePlace(x, 1, 1, 0, 0, 1);
            duePlace(x, 2, 0, 1, 0, 2);
            Check.due("open() where 2 is told at " + t[0] + ", " + t[1], x.open(), t[2]);
        }
    }

    /** "A pair a, b of JOINED ones (a less than b)": THE SHIFT of 1, 2 is one of two, that of 2, 1 is the other. */
    private static void openByTheShiftOfTheLess() {
        for (int open = 0; open < 2; open++) {
            PictureJoin x = loop(0, 1);
            // two marks that 1 has in its second row and 2 in its first
            int px = 2 * open;
            Scene.patch(x, 1, 3, 10, G);
            Scene.patch(x, 1, 9, 10, H);
            Scene.patch(x, 2, 3 + px, 4, G);
            Scene.patch(x, 2, 9 + px, 4, H);
            dueShift(x, 1, 2, open == 1 ? -2 : -1, open == 1 ? 6 : 1, 2, 4);
            dueShift(x, 2, 1, open == 1 ? 1 : 0, open == 1 ? -1 : -6, 2, 4);
            duePlace(x, 1, 1, 0, 0, 1);
            duePlace(x, 2, 0, 1, 0, 2);
            Check.due("open()", x.open(), open);
        }
    }

    /** "neither being JOINED by the other": 1 is joined by 2, and THE SHIFT of 1, 2 is another than that of 2, 1. */
    private static void notOpenIfJoinedByTheOther() {
        PictureJoin x = dim(3, 0);
        mark(x, 0, 0, 0, 0, 0, A);
        mark(x, 0, 0, 0, 1, 0, B);
        mark(x, 2, 0, 0, 0, 0, A);
        mark(x, 2, 0, 0, 1, 0, B);
        mark(x, 2, 0, 0, 0, 1, C);
        mark(x, 2, 0, 0, 1, 1, D);
        mark(x, 1, 1, 0, 0, 1, C);
        mark(x, 1, 1, 0, 1, 1, D);
        mark(x, 2, 0, 0, 0, 2, E);
        mark(x, 2, 0, 0, 1, 2, F);
        mark(x, 1, 0, 0, 0, 2, E);
        mark(x, 1, 0, 0, 1, 2, F);
        dueShift(x, 2, 1, 0, 0, 2, 4);
        dueShift(x, 1, 2, -1, 0, 2, 4);
        duePlace(x, 2, 0, 0, 0, 1);
        duePlace(x, 1, 0, 0, 2, 2);
        Check.due("open()", x.open(), 0);
    }

    /** "of JOINED ones": 1 and 2 have a SHIFT, but lie nowhere; then 2 is joined, and 1 by it. */
    private static void notOpenIfNotJoined() {
        PictureJoin x = dim(3, 0);
        mark(x, 1, 1, 0, 0, 2, C);
        mark(x, 1, 1, 0, 1, 2, D);
        mark(x, 2, 0, 1, 0, 2, C);
        mark(x, 2, 0, 1, 1, 2, D);
        dueShift(x, 1, 2, -1, 1, 2, 2);
        Check.due("joined()", x.joined(), 1);
        Check.due("open()", x.open(), 0);
        mark(x, 0, 0, 0, 1, 1, E);
        mark(x, 0, 0, 0, 2, 1, F);
        mark(x, 2, 0, 1, 1, 1, E);
        mark(x, 2, 0, 1, 2, 1, F);
        Check.due("joined()", x.joined(), 3);
        duePlace(x, 2, 0, 1, 0, 1);
        duePlace(x, 1, 1, 0, 2, 2);
        Check.due("open()", x.open(), 0);
    }

    /** Promise 15: "How many pairs are OPEN": 1, 2, 3 are joined by 0, and two marks more do not fit. */
    private static void openOfSeveral() {
        int[][] cases = {
            // how far right 1, 2, 3 have these marks; how many are open when 1, then 2, then 3 has them
            {0, 0, 0, 0, 0, 0}, {0, 0, 1, 0, 0, 2}, {0, 1, 1, 0, 1, 2}, {0, 1, 2, 0, 1, 3}, {1, 0, 0, 0, 0, 0}, {1, 0, 2, 0, 0, 2}, {1, 2, 0, 0, 1, 1},
        };
        for (int[] c : cases) {
            PictureJoin x = dim(4, 0);
            for (int picture = 0; picture < 4; picture++) {
                mark(x, picture, 0, 0, 0, 0, A);
                mark(x, picture, 0, 0, 1, 0, B);
            }
            for (int picture = 1; picture < 4; picture++) {
                // a pair has two shifts of two votes then: THE SHIFT is the other one where its x is less than 0
                Scene.patch(x, picture, 4 + c[picture - 1], 10, C);
                Scene.patch(x, picture, 10 + c[picture - 1], 10, D);
                Check.due("joined()", x.joined(), 4);
                Check.due("open() at " + picture + " of " + java.util.Arrays.toString(c), x.open(), c[picture + 2]);
            }
        }
    }
}
