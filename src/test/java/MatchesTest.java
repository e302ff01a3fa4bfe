/** Promises 12 to 16 (and 8 for NEAR): matches, shifts, places, open pairs, joined pictures. */
public final class MatchesTest {
    private static final int U = -1000001, O = -1000002, N = -1000005;
    private static final int NONE = -6;
    private static final int[] FAR = {Integer.MIN_VALUE, -1, 4, Integer.MAX_VALUE};
    /** Signs of one bit each: two off one another. */
    private static final int A = 1, B = 16, C = 32, D = 256, E = 512, F = 1024;

    public static void main(String[] args) {
        matchByNear();
        matchTheFirstOfSeveral();
        matchBothWays();
        matchNothing();
        matchRefuses();
        shiftOfTheMostVotes();
        shiftOfTheLeastX();
        shiftOfTheLeastY();
        shiftRefuses();
        placeOfOne();
        placesInAChain();
        placesByVotes();
        placesByLeastNumbers();
        notJoined();
        placeRefuses();
        openPair();
        joinedByTheOtherIsNotOpen();
        sixteenMarksEach();
        placesFollowDotsAndRules();
        Check.end();
    }

    /** Pictures of 20 by 20, too dim for marks of their own. */
    private static PictureJoin dim(int pictures, int near) {
        PictureJoin x = new PictureJoin();
        x.rules(5000, near);
        for (int p = 0; p < pictures; p++) {
            x.shoot(20, 20, 50 * p, 70, 1);
        }
        return x;
    }

    private static void mark(PictureJoin x, int picture, int i, int j, int sign) {
        Scene.patch(x, picture, i, j, sign);
    }

    /** Two marks, side by side. */
    private static void twoMarks(PictureJoin x, int picture, int i, int j, int sign, int sign2) {
        mark(x, picture, i, j, sign);
        mark(x, picture, i + 8, j, sign2);
    }

    private static void dueShift(PictureJoin x, int a, int b, int dx, int dy, int votes, int matches) {
        int[] due = {dx, dy, votes, matches};
        for (int what = 0; what < 4; what++) {
            Check.due("13: shift(" + a + ", " + b + ", " + what + ")", x.shift(a, b, what), due[what]);
        }
    }

    private static void duePlace(PictureJoin x, int picture, int px, int py, int by, int rank) {
        int[] due = {px, py, by, rank, 20, 20};
        for (int what = 0; what < 6; what++) {
            Check.due("14: place(" + picture + ", " + what + ")", x.place(picture, what), due[what]);
        }
    }

    private static void matchByNear() {
        int sign = 0;
        for (int distance = 0; distance <= 12; distance++) {
            PictureJoin x = new PictureJoin();
            x.shoot(8, 8, 0, 0, 1);
            x.shoot(8, 8, 0, 0, 1);
            mark(x, 0, 4, 4, 0);
            mark(x, 1, 3, 3, sign);
            Check.due("12: the sign painted", x.mark(1, 0, 3), sign);
            Check.due("12: NEAR of 2, distance " + distance, x.match(0, 0, 1), distance <= 2 ? 0 : NONE);
            for (int near = 0; near <= 12; near++) {
                x.rules(5000, near);
                int due = distance <= near ? 0 : NONE;
                Check.due("12: NEAR " + near + ", distance " + distance, x.match(0, 0, 1), due);
                Check.due("12: the other way round", x.match(1, 0, 0), due);
                Check.due("13: MATCHES", x.shift(0, 1, 3), due == 0 ? 1 : 0);
                Check.due("13: one vote is no SHIFT", x.shift(0, 1, 2), 0);
                Check.due("13: no x", x.shift(0, 1, 0), N);
                Check.due("13: no y", x.shift(0, 1, 1), N);
            }
            sign |= 1 << (distance * 5 + 2) % 12;
        }
    }

    private static void matchTheFirstOfSeveral() {
        PictureJoin x = dim(2, 0);
        twoMarks(x, 0, 4, 4, 0, 0);
        twoMarks(x, 1, 6, 9, 0, 0);
        Check.due("12: the first of the first", x.match(0, 0, 1), 0);
        Check.due("12: the second has none", x.match(0, 1, 1), NONE);
        Check.due("12: the first of the first", x.match(1, 0, 0), 0);
        Check.due("12: the second has none", x.match(1, 1, 0), NONE);
        Check.due("13: MATCHES", x.shift(0, 1, 3), 1);
        Check.due("16: joined()", x.joined(), 1);
    }

    private static void matchBothWays() {
        PictureJoin x = dim(2, 1);
        twoMarks(x, 0, 4, 4, 0, A);
        mark(x, 1, 6, 9, A | B);
        int nearer = x.mark(0, 0, 3) == A ? 0 : 1;
        Check.due("12: the nearer one", x.match(0, nearer, 1), 0);
        Check.due("12: the farther one has none", x.match(0, 1 - nearer, 1), NONE);
        Check.due("12: back", x.match(1, 0, 0), nearer);
        x.rules(5000, 12);
        Check.due("12: still none", x.match(0, 1 - nearer, 1), NONE);
        x.rules(5000, 0);
        Check.due("12: too far", x.match(0, nearer, 1), NONE);
    }

    private static void matchNothing() {
        PictureJoin x = dim(2, 12);
        mark(x, 0, 4, 4, 0);
        Check.due("12: b has no MARKS", x.match(0, 0, 1), NONE);
        Check.due("12: a has no MARKS", x.match(1, 0, 0), -1);
        Check.due("13: no MATCHES", x.shift(0, 1, 3), 0);
        Check.due("13: no MATCHES", x.shift(1, 0, 3), 0);
        Check.due("13: no votes", x.shift(1, 0, 2), 0);
    }

    private static void matchRefuses() {
        PictureJoin x = dim(2, 2);
        mark(x, 0, 4, 4, 0);
        mark(x, 1, 4, 4, 0);
        Check.due("12: it matches", x.match(0, 0, 1), 0);
        Check.due("12: a and b are one", x.match(0, 0, 0), -1);
        Check.due("12: no such MARK", x.match(0, 1, 1), -1);
        Check.due("12: no such MARK", x.match(0, 16, 1), -1);
        Check.due("12: no such picture", x.match(2, 0, 1), -1);
        Check.due("12: no such picture", x.match(0, 0, 2), -1);
        for (int far : FAR) {
            Check.due("12: far a", x.match(far, 0, 1), -1);
            Check.due("12: far m", x.match(0, far, 1), -1);
            Check.due("12: far b", x.match(0, 0, far), -1);
        }
    }

    private static void shiftOfTheMostVotes() {
        PictureJoin x = dim(2, 0);
        twoMarks(x, 0, 6, 6, A, B);
        twoMarks(x, 0, 6, 14, C, D);
        twoMarks(x, 1, 4, 5, A, B);
        mark(x, 1, 4, 13, C);
        mark(x, 1, 15, 13, D);
        // D alone votes for -1, 1; which is less
        dueShift(x, 0, 1, 2, 1, 3, 4);
        dueShift(x, 1, 0, -2, -1, 3, 4);
        duePlace(x, 1, 2, 1, 0, 1);
    }

    private static void shiftOfTheLeastX() {
        PictureJoin x = dim(2, 0);
        twoMarks(x, 0, 6, 6, A, B);
        twoMarks(x, 0, 6, 14, C, D);
        twoMarks(x, 1, 4, 5, A, B);
        twoMarks(x, 1, 7, 11, C, D);
        dueShift(x, 0, 1, -1, 3, 2, 4);
        dueShift(x, 1, 0, -2, -1, 2, 4);
        duePlace(x, 1, -1, 3, 0, 1);
        Check.due("15: a JOINED pair is not OPEN", x.open(), 0);
    }

    private static void shiftOfTheLeastY() {
        PictureJoin x = dim(2, 0);
        twoMarks(x, 0, 6, 6, A, B);
        twoMarks(x, 0, 6, 14, C, D);
        twoMarks(x, 1, 4, 5, A, B);
        twoMarks(x, 1, 4, 16, C, D);
        dueShift(x, 0, 1, 2, -2, 2, 4);
        dueShift(x, 1, 0, -2, -1, 2, 4);
    }

    private static void shiftRefuses() {
        PictureJoin x = dim(2, 0);
        twoMarks(x, 0, 6, 6, A, B);
        twoMarks(x, 1, 5, 5, A, B);
        dueShift(x, 0, 1, 1, 1, 2, 2);
        Check.due("13: one picture", x.shift(0, 0, 2), U);
        Check.due("13: one picture ahead of OUTSIDE", x.shift(1, 1, 4), U);
        Check.due("13: no picture 2", x.shift(0, 2, 0), U);
        Check.due("13: no picture 2", x.shift(2, 0, 0), U);
        Check.due("13: UNKNOWN ahead of OUTSIDE", x.shift(2, 0, 4), U);
        Check.due("13: shift(0, 1, 4)", x.shift(0, 1, 4), O);
        Check.due("13: shift(0, 1, -1)", x.shift(0, 1, -1), O);
        for (int far : FAR) {
            Check.due("13: far a", x.shift(far, 1, 0), U);
            Check.due("13: far b", x.shift(0, far, 0), U);
            Check.due("13: far what", x.shift(0, 1, far), O);
        }
        x.rules(1000000, 0);
        Check.due("13: no SHIFT, x", x.shift(0, 1, 0), N);
        Check.due("13: no SHIFT, y", x.shift(0, 1, 1), N);
        Check.due("13: no SHIFT, votes", x.shift(0, 1, 2), 0);
        Check.due("13: OUTSIDE ahead of NO", x.shift(0, 1, 4), O);
    }

    private static void placeOfOne() {
        PictureJoin x = new PictureJoin();
        Check.due("16: none", x.joined(), 0);
        x.shoot(9, 14, 70, 70, 16);
        Check.due("16: 0 is joined", x.joined(), 1);
        int[] due = {0, 0, NONE, 0, 9, 14};
        for (int what = 0; what < 6; what++) {
            Check.due("14: place(0, " + what + ")", x.place(0, what), due[what]);
        }
    }

    /** 2 is joined by 0, then 1 by 2. */
    private static void placesInAChain() {
        PictureJoin x = dim(3, 0);
        twoMarks(x, 0, 6, 6, A, B);
        twoMarks(x, 2, 4, 5, A, B);
        twoMarks(x, 2, 5, 14, C, D);
        twoMarks(x, 1, 8, 13, C, D);
        duePlace(x, 0, 0, 0, NONE, 0);
        duePlace(x, 2, 2, 1, 0, 1);
        duePlace(x, 1, -1, 2, 2, 2);
        Check.due("16: joined()", x.joined(), 3);
        Check.due("15: open()", x.open(), 0);
        Check.due("13: no SHIFT of 0 and 1", x.shift(0, 1, 2), 0);
    }

    /** 2 has three votes, 1 has two: 2 is joined first. */
    private static void placesByVotes() {
        PictureJoin x = dim(3, 0);
        twoMarks(x, 0, 6, 6, A, B);
        mark(x, 0, 6, 14, C);
        twoMarks(x, 1, 5, 5, A, B);
        twoMarks(x, 2, 3, 6, A, B);
        mark(x, 2, 3, 14, C);
        duePlace(x, 2, 3, 0, 0, 1);
        duePlace(x, 1, 1, 1, 0, 2);
        Check.due("15: a loop that closes", x.open(), 0);
        Check.due("13: it has a SHIFT", x.shift(1, 2, 2), 2);
    }

    /** All pairs have two votes: 1 by 0, then 2 by 0, and not by 1. */
    private static void placesByLeastNumbers() {
        PictureJoin x = dim(3, 0);
        twoMarks(x, 0, 6, 6, A, B);
        twoMarks(x, 1, 5, 5, A, B);
        twoMarks(x, 2, 3, 6, A, B);
        duePlace(x, 1, 1, 1, 0, 1);
        duePlace(x, 2, 3, 0, 0, 2);
    }

    /** 1 and 2 have a SHIFT, but none with 0. */
    private static void notJoined() {
        PictureJoin x = dim(3, 0);
        twoMarks(x, 0, 6, 6, A, B);
        twoMarks(x, 1, 5, 5, C, D);
        twoMarks(x, 2, 3, 6, C, D);
        Check.due("16: joined()", x.joined(), 1);
        Check.due("15: not JOINED, not OPEN", x.open(), 0);
        dueShift(x, 1, 2, 2, -1, 2, 2);
        for (int what = 0; what < 4; what++) {
            Check.due("14: place(1, " + what + ")", x.place(1, what), N);
        }
        Check.due("14: w", x.place(1, 4), 20);
        Check.due("14: h", x.place(1, 5), 20);
    }

    private static void placeRefuses() {
        PictureJoin x = new PictureJoin();
        Check.due("14: no PICTURE", x.place(0, 0), U);
        x.shoot(8, 8, 0, 0, 1);
        x.shoot(9, 10, 0, 0, 1);
        Check.due("14: place(0, 6)", x.place(0, 6), O);
        Check.due("14: place(0, -1)", x.place(0, -1), O);
        Check.due("14: UNKNOWN ahead of OUTSIDE", x.place(2, 6), U);
        Check.due("14: OUTSIDE ahead of NO", x.place(1, 6), O);
        Check.due("14: NO", x.place(1, 0), N);
        Check.due("14: w of one not JOINED", x.place(1, 4), 9);
        Check.due("14: h of one not JOINED", x.place(1, 5), 10);
        for (int far : FAR) {
            Check.due("14: far picture", x.place(far, 0), U);
            Check.due("14: far picture, far what", x.place(far, far), U);
        }
        Check.due("14: far what", x.place(1, Integer.MAX_VALUE), O);
        Check.due("14: far what", x.place(1, Integer.MIN_VALUE), O);
    }

    /** A, B join 1 to 0; E, F join 2 to 0; what C, D say of 1 and 2 does not fit. */
    private static void openPair() {
        PictureJoin x = dim(3, 0);
        twoMarks(x, 0, 6, 14, A, B);
        twoMarks(x, 0, 6, 6, E, F);
        twoMarks(x, 1, 5, 14, A, B);
        twoMarks(x, 1, 6, 6, C, D);
        twoMarks(x, 2, 6, 5, E, F);
        twoMarks(x, 2, 5, 14, C, D);
        duePlace(x, 1, 1, 0, 0, 1);
        duePlace(x, 2, 0, 1, 0, 2);
        dueShift(x, 1, 2, 1, -8, 2, 2);
        Check.due("15: open()", x.open(), 1);
        x.dot(2, 5, 14, -1);
        Check.due("13: no SHIFT any more", x.shift(1, 2, 2), 0);
        Check.due("15: no SHIFT, not OPEN", x.open(), 0);
    }

    /** 1 is joined by 2 with one of two like shifts; asked the other way round, the other one is THE SHIFT. */
    private static void joinedByTheOtherIsNotOpen() {
        PictureJoin x = dim(3, 0);
        twoMarks(x, 0, 6, 3, A, B);
        twoMarks(x, 2, 6, 3, A, B);
        twoMarks(x, 2, 6, 9, C, D);
        twoMarks(x, 2, 6, 15, E, F);
        twoMarks(x, 1, 5, 9, C, D);
        twoMarks(x, 1, 7, 14, E, F);
        dueShift(x, 2, 1, -1, 1, 2, 4);
        dueShift(x, 1, 2, -1, 0, 2, 4);
        duePlace(x, 2, 0, 0, 0, 1);
        duePlace(x, 1, -1, 1, 2, 2);
        Check.due("15: open()", x.open(), 0);
    }

    /** Single spots, four off one another, on dim pictures that are alike but for the last spots. */
    private static void sixteenMarksEach() {
        PictureJoin x = new PictureJoin();
        Model model = new Model();
        x.rules(5000, 1);
        model.rules(5000, 1);
        for (int p = 0; p < 2; p++) {
            x.shoot(20, 20, 300, 400, 1);
            model.shoot(20, 20, 300, 400, 1);
            for (int k = 0; k < 16; k++) {
                int v = 200 + k * 3 + (k > 11 ? p : 0);
                x.dot(p, 4 + k % 4 * 4, 3 + k / 4 * 4, v);
                model.dot(p, 4 + k % 4 * 4, 3 + k / 4 * 4, v);
            }
            Check.due("10: marks(" + p + ")", x.marks(p), 16);
        }
        for (int m = 0; m < 17; m++) {
            Check.due("12: match(0, " + m + ", 1)", x.match(0, m, 1), model.match(0, m, 1));
            Check.due("12: match(1, " + m + ", 0)", x.match(1, m, 0), model.match(1, m, 0));
        }
        dueShift(x, 0, 1, 0, 0, model.shift(0, 1, 2), model.shift(0, 1, 3));
        Check.that("13: many votes: " + x.shift(0, 1, 2), x.shift(0, 1, 2) > 5);
    }

    private static void placesFollowDotsAndRules() {
        PictureJoin x = dim(1, 0);
        twoMarks(x, 0, 6, 6, A, B);
        Check.due("16: joined()", x.joined(), 1);
        x.shoot(20, 20, 50, 70, 1);
        Check.due("16: joined()", x.joined(), 1);
        twoMarks(x, 1, 5, 5, A, B);
        Check.due("16: after dots", x.joined(), 2);
        x.rules(1000000, 0);
        Check.due("16: after rules", x.joined(), 1);
        Check.due("14: after rules", x.place(1, 3), N);
        x.rules(5000, 0);
        Check.due("16: after rules", x.joined(), 2);
        int before = x.dot(1, 5, 5, -1);
        Check.due("16: after a lost dot", x.joined(), 1);
        x.dot(1, 5, 5, before);
        Check.due("16: after a dot told again", x.joined(), 2);
        x.seed(99);
        Check.due("16: SEED is of no account", x.joined(), 2);
        x.clear();
        Check.due("16: after clear", x.joined(), 0);
        Check.due("15: after clear", x.open(), 0);
    }
}
