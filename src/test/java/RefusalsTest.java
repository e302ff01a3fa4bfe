import java.lang.reflect.Method;
import java.util.ArrayList;
import java.util.List;
import java.util.Map;
import java.util.TreeMap;

/**
 * "Calls that are refused answer, the first of these that fits: UNKNOWN -1, OUTSIDE -2, FULL -4, NO -5. They
 * change nothing." Each refusal of each promise, alone and with those that come behind it; and after each of
 * them the object tells all that one tells that was not called.
 */
public final class RefusalsTest {
    private static final int UNKNOWN = -1, OUTSIDE = -2, FULL = -4, NO = -5, NONE = -6;
    private static final int LOST = -1000000;
    private static final int MIN = Integer.MIN_VALUE, MAX = Integer.MAX_VALUE;
    private static final Map<String, Method> FACE = new TreeMap<>();

    /** A call, and what it answers. */
    private record Call(int answer, String method, int... args) {
        int on(PictureJoin join) throws Exception {
            Object[] given = new Object[args.length];
            for (int k = 0; k < args.length; k++) {
                given[k] = args[k];
            }
            return (int) FACE.get(method).invoke(join, given);
        }

        String words() {
            return method + java.util.Arrays.toString(args);
        }
    }

    public static void main(String[] args) throws Exception {
        for (Method method : PictureJoin.class.getDeclaredMethods()) {
            FACE.put(method.getName(), method);
        }
        stateTellsOfEachChange();
        List<Call> always = new ArrayList<>();
        outsideOnly(always);
        noPictureOrDot(always);
        noMark(always);
        noPair(always);
        refusedByTwo(always);
        for (Call call : always) {
            changesNothing("four pictures", RefusalsTest::fourPictures, call);
        }
        List<Call> full = List.of(
            new Call(FULL, "shoot", 8, 8, 0, 0, 1), new Call(FULL, "shoot", 20, 20, 1900, 1900, 64),
            new Call(OUTSIDE, "shoot", 7, 8, 0, 0, 1), new Call(OUTSIDE, "shoot", 8, 21, 0, 0, 1),
            new Call(OUTSIDE, "shoot", 8, 8, -1, 0, 1), new Call(OUTSIDE, "shoot", 8, 8, 0, 1901, 1),
            new Call(OUTSIDE, "shoot", 8, 8, 0, 0, 65));
        for (Call call : full) {
            changesNothing("four pictures", RefusalsTest::fourPictures, call);
        }
        List<Call> three = List.of(
            new Call(OUTSIDE, "shoot", 7, 8, 0, 0, 1), new Call(OUTSIDE, "shoot", 21, 8, 0, 0, 1),
            new Call(OUTSIDE, "shoot", 8, 7, 0, 0, 1), new Call(OUTSIDE, "shoot", 8, 21, 0, 0, 1),
            new Call(OUTSIDE, "shoot", 8, 8, -1, 0, 1), new Call(OUTSIDE, "shoot", 8, 8, 1901, 0, 1),
            new Call(OUTSIDE, "shoot", 8, 8, 0, -1, 1), new Call(OUTSIDE, "shoot", 8, 8, 0, 1901, 1),
            new Call(OUTSIDE, "shoot", 8, 8, 0, 0, 0), new Call(OUTSIDE, "shoot", 8, 8, 0, 0, 65),
            new Call(LOST + UNKNOWN, "dot", 3, 0, 0, 0), new Call(LOST + UNKNOWN, "place", 3, 4),
            new Call(UNKNOWN, "marks", 3), new Call(UNKNOWN, "seam", 0, 3, 0));
        for (Call call : three) {
            changesNothing("three pictures", RefusalsTest::threePictures, call);
        }
        nothingThereYet(new PictureJoin(), "a new object");
        PictureJoin cleared = fourPictures();
        cleared.joined();
        cleared.clear();
        nothingThereYet(cleared, "a cleared one");
        Check.end();
    }

    /** 1 is joined by 0, 2 by 1, 3 is not; the pair 0, 2 is open. Dots are told after the places were asked for. */
    private static PictureJoin fourPictures() {
        PictureJoin x = threePictures();
        x.shoot(9, 10, 900, 900, 16);
        x.joined();
        x.dot(0, 0, 0, -1);
        x.dot(2, 18, 19, 255);
        return x;
    }

    private static PictureJoin threePictures() {
        PictureJoin x = new PictureJoin();
        x.seed(25937);
        x.rules(300, 1);
        x.shoot(20, 20, 300, 400, 16);
        x.shoot(20, 18, 303, 402, 16);
        x.shoot(19, 20, 295, 406, 24);
        return x;
    }

    /** A change of each kind is seen in the state: else nothing could be said of calls that change nothing. */
    private static void stateTellsOfEachChange() {
        PictureJoin x = fourPictures();
        Check.due("three are joined", x.joined(), 3);
        Check.due("1 by 0", x.place(1, 2), 0);
        Check.due("2 by 1", x.place(2, 2), 1);
        Check.due("3 is not joined", x.place(3, 0), LOST + NO);
        Check.due("one pair is open", x.open(), 1);
        List<String> as = State.of(fourPictures());
        Check.that("like objects are alike", as.equals(State.of(fourPictures())));
        String[] changes = {"seed", "rules", "near", "dot", "clear", "shoot"};
        for (String change : changes) {
            PictureJoin y = change.equals("shoot") ? threePictures() : fourPictures();
            switch (change) {
                case "seed": y.seed(25938); break;
                case "rules": y.rules(301, 1); break;
                case "near": y.rules(300, 2); break;
                case "dot": y.dot(1, 9, 9, 0); break;
                case "clear": y.clear(); break;
                default: y.shoot(9, 10, 900, 901, 16); break;
            }
            Check.that("the state tells of " + change, !as.equals(State.of(y)));
        }
    }

    /** Promises 3, 8, 20, 21, 22. */
    private static void outsideOnly(List<Call> calls) {
        int[] places = {-1, 2001, MIN, MAX};
        for (int place : places) {
            calls.add(new Call(OUTSIDE, "light", place, 0));
            calls.add(new Call(OUTSIDE, "light", 2000, place));
        }
        int[][] rules = {{0, 3}, {1000001, 3}, {MIN, 3}, {MAX, 3}, {7, -1}, {7, 13}, {7, MIN}, {7, MAX}, {0, 13}};
        for (int[] r : rules) {
            calls.add(new Call(OUTSIDE, "rules", r[0], r[1]));
        }
        int[] whats = {-1, 2, MIN, MAX};
        for (int what : whats) {
            calls.add(new Call(OUTSIDE, "whole", 0, 0, what));
        }
        calls.add(new Call(LOST + OUTSIDE, "extent", -1));
        calls.add(new Call(LOST + OUTSIDE, "extent", 5));
        calls.add(new Call(LOST + OUTSIDE, "told", -1));
        calls.add(new Call(LOST + OUTSIDE, "told", 4));
    }

    /** Promises 6, 7, 9, 10, 14: picture 1 has 20 by 18 dots, picture 3 is not joined. */
    private static void noPictureOrDot(List<Call> calls) {
        int[][] dots = {{-1, 0, 0}, {4, 0, 0}, {MIN, 0, 0}, {MAX, 0, 0}, {1, -1, 0}, {1, 20, 0}, {1, MIN, 0}, {1, 0, -1},
            {1, 0, 18}, {1, 0, MAX}};
        for (int[] d : dots) {
            calls.add(new Call(LOST + UNKNOWN, "dot", d[0], d[1], d[2], 9));
            calls.add(new Call(LOST + UNKNOWN, "dot", d[0], d[1], d[2], 256));
            calls.add(new Call(LOST + UNKNOWN, "at", d[0], d[1], d[2]));
            calls.add(new Call(UNKNOWN, "score", d[0], d[1], d[2]));
        }
        int[] values = {-2, 256, MIN, MAX};
        for (int v : values) {
            calls.add(new Call(LOST + OUTSIDE, "dot", 1, 9, 9, v));
        }
        int[] pictures = {-1, 4, MIN, MAX};
        for (int p : pictures) {
            calls.add(new Call(UNKNOWN, "marks", p));
            calls.add(new Call(LOST + UNKNOWN, "place", p, 0));
            calls.add(new Call(LOST + UNKNOWN, "place", p, 4));
            calls.add(new Call(LOST + UNKNOWN, "place", p, 6));
        }
        int[] whats = {-1, 6, MIN, MAX};
        for (int what : whats) {
            calls.add(new Call(LOST + OUTSIDE, "place", 0, what));
            calls.add(new Call(LOST + OUTSIDE, "place", 3, what));
        }
        for (int what = 0; what < 4; what++) {
            calls.add(new Call(LOST + NO, "place", 3, what));
        }
    }

    /** Promises 11, 12: picture 3 has one mark, picture 1 has six. */
    private static void noMark(List<Call> calls) {
        int[][] marks = {{-1, 0}, {4, 0}, {MIN, 0}, {MAX, 0}, {3, -1}, {3, 1}, {3, MIN}, {3, MAX}, {1, 6}, {1, 16}};
        for (int[] m : marks) {
            calls.add(new Call(UNKNOWN, "mark", m[0], m[1], 0));
            calls.add(new Call(UNKNOWN, "mark", m[0], m[1], 4));
            calls.add(new Call(UNKNOWN, "match", m[0], m[1], 0));
        }
        int[] whats = {-1, 4, MIN, MAX};
        for (int what : whats) {
            calls.add(new Call(OUTSIDE, "mark", 3, 0, what));
        }
        int[] others = {-1, 0, 4, MIN, MAX};
        for (int b : others) {
            calls.add(new Call(UNKNOWN, "match", 0, 0, b));
        }
    }

    /** Promises 13, 17, 18, 19: there is no such pair, whatever else is asked for. */
    private static void noPair(List<Call> calls) {
        int[][] pairs = {{-1, 0}, {0, -1}, {4, 0}, {0, 4}, {MIN, 0}, {0, MAX}, {-1, 4}, {0, 0}, {3, 3}};
        int[] whats = {0, -1, 4, MAX};
        for (int[] p : pairs) {
            for (int what : whats) {
                calls.add(new Call(LOST + UNKNOWN, "shift", p[0], p[1], what));
                calls.add(new Call(LOST + UNKNOWN, "overlap", p[0], p[1], what));
                calls.add(new Call(LOST + UNKNOWN, "lights", p[0], p[1], what));
                calls.add(new Call(UNKNOWN, "seam", p[0], p[1], what));
            }
        }
    }

    /** Promises 13, 17, 18, 19: another number is not as told, then no shift or not joined. 3 has no shift. */
    private static void refusedByTwo(List<Call> calls) {
        int[][] pairs = {{0, 1}, {0, 3}, {3, 0}};
        int[] whats = {-1, 4, MIN, MAX};
        for (int[] p : pairs) {
            for (int what : whats) {
                calls.add(new Call(LOST + OUTSIDE, "shift", p[0], p[1], what));
                calls.add(new Call(LOST + OUTSIDE, "overlap", p[0], p[1], what));
                calls.add(new Call(LOST + OUTSIDE, "lights", p[0], p[1], what));
            }
            calls.add(new Call(LOST + OUTSIDE, "lights", p[0], p[1], 3));
        }
        for (int k = 1; k < pairs.length; k++) {
            int a = pairs[k][0];
            int b = pairs[k][1];
            calls.add(new Call(LOST + NO, "shift", a, b, 0));
            calls.add(new Call(LOST + NO, "shift", a, b, 1));
            for (int what = 0; what < 4; what++) {
                calls.add(new Call(LOST + NO, "overlap", a, b, what));
            }
            for (int what = 0; what < 3; what++) {
                calls.add(new Call(LOST + NO, "lights", a, b, what));
            }
            int[] rows = {-1, 0, 20, -2, MIN, MAX};
            for (int row : rows) {
                calls.add(new Call(NO, "seam", a, b, row));
            }
        }
    }

    private interface Maker {
        PictureJoin make();
    }

    /** The call comes once ahead of what follows from a change, and once behind it. */
    private static void changesNothing(String on, Maker maker, Call call) throws Exception {
        PictureJoin fresh = maker.make();
        Check.due(on + ": " + call.words(), call.on(fresh), call.answer());
        List<String> due = State.of(maker.make());
        compare(on + ": after " + call.words(), State.of(fresh), due);
        PictureJoin settled = maker.make();
        settled.open();
        Check.due(on + ", settled: " + call.words(), call.on(settled), call.answer());
        compare(on + ", settled: after " + call.words(), State.of(settled), due);
    }

    private static void compare(String after, List<String> got, List<String> due) {
        for (int k = 0; k < due.size(); k++) {
            if (!got.get(k).equals(due.get(k))) {
                Check.that(after + ": " + got.get(k) + " as " + due.get(k), false);
                return;
            }
        }
        Check.that(after + ": all is told", got.size() == due.size());
    }

    /** Without pictures there is no picture, mark, dot or pair; what is asked of all of them is still told. */
    private static void nothingThereYet(PictureJoin x, String on) throws Exception {
        List<Call> calls = new ArrayList<>();
        calls.add(new Call(0, "clear"));
        calls.add(new Call(LOST + UNKNOWN, "dot", 0, 0, 0, 0));
        calls.add(new Call(LOST + UNKNOWN, "dot", 0, 0, 0, 256));
        calls.add(new Call(LOST + UNKNOWN, "at", 0, 0, 0));
        calls.add(new Call(UNKNOWN, "score", 0, 3, 3));
        calls.add(new Call(UNKNOWN, "marks", 0));
        calls.add(new Call(UNKNOWN, "mark", 0, 0, 0));
        calls.add(new Call(UNKNOWN, "mark", 0, 0, 4));
        calls.add(new Call(UNKNOWN, "match", 0, 0, 1));
        calls.add(new Call(LOST + UNKNOWN, "shift", 0, 1, 2));
        calls.add(new Call(LOST + UNKNOWN, "shift", 0, 1, 4));
        calls.add(new Call(LOST + UNKNOWN, "place", 0, 0));
        calls.add(new Call(LOST + UNKNOWN, "place", 0, 4));
        calls.add(new Call(LOST + UNKNOWN, "place", 0, 6));
        calls.add(new Call(0, "open"));
        calls.add(new Call(0, "joined"));
        calls.add(new Call(LOST + UNKNOWN, "overlap", 0, 1, 0));
        calls.add(new Call(LOST + UNKNOWN, "lights", 0, 1, 0));
        calls.add(new Call(UNKNOWN, "seam", 0, 1, 0));
        calls.add(new Call(NONE, "whole", 0, 0, 0));
        calls.add(new Call(NONE, "whole", 0, 0, 1));
        calls.add(new Call(OUTSIDE, "whole", 0, 0, 2));
        for (int what = 0; what < 5; what++) {
            calls.add(new Call(LOST + NO, "extent", what));
        }
        calls.add(new Call(LOST + OUTSIDE, "extent", 5));
        calls.add(new Call(LOST + OUTSIDE, "extent", -1));
        calls.add(new Call(0, "told", 0));
        for (Call call : calls) {
            Check.due(on + ": " + call.words(), call.on(x), call.answer());
        }
        Check.due(on + ": the first picture is 0", x.shoot(8, 8, 0, 0, 1), 0);
    }
}
