import java.lang.reflect.Method;
import java.util.ArrayList;
import java.util.List;
import java.util.Map;
import java.util.Random;
import java.util.TreeMap;

/**
 * Runs of calls, made up by a fixed seed, answered by the class and by the model: all answers must be alike.
 * At the end it is told whether the runs have seen what they are there for.
 */
public final class RandomRunsTest {
    private static final int CALLS = 512;
    private static final Map<String, Method> OF_CLASS = new TreeMap<>();
    private static final Map<String, Method> OF_MODEL = new TreeMap<>();
    private static final Map<String, Integer> SEEN = new TreeMap<>();

    private final Random random;
    private final PictureJoin join = new PictureJoin();
    private final Model model = new Model();
    private final String name;
    private int calls = 0;

    private RandomRunsTest(int run) {
        random = new Random(run);
        name = "run " + run;
    }

    public static void main(String[] args) throws Exception {
        for (Method method : Model.class.getMethods()) {
            for (Method own : PictureJoin.class.getMethods()) {
                if (own.getName().equals(method.getName()) && method.getDeclaringClass() == Model.class) {
                    OF_CLASS.put(own.getName(), own);
                    OF_MODEL.put(own.getName(), method);
                }
            }
        }
        Check.due("calls of the face in the model", OF_CLASS.size(), 21);
        int runs = args.length > 1 ? Integer.parseInt(args[1]) : 500;
        for (int run = 0; run < runs; run++) {
            new RandomRunsTest(run).go(run % 5);
        }
        for (String what : new String[] {"two joined", "three joined", "four joined", "open pairs",
            "a shift of several", "joined by another than 0", "joined out of order", "lost in an overlap",
            "no overlap though joined", "a crooked seam", "votes of 3", "match refused"}) {
            Check.that("the runs have seen: " + what + " " + SEEN, SEEN.getOrDefault(what, 0) >= 3);
        }
        Check.end();
    }

    private void go(int kind) throws Exception {
        call("seed", random.nextInt());
        call("rules", kind == 0 ? 1 + random.nextInt(6000) : 1 + random.nextInt(300), kind == 4 ? random.nextInt(3) : random.nextInt(13));
        if (kind == 3) {
            paintSmall();
        } else if (kind == 4) {
            shootStrip();
        } else {
            shootNear(kind);
        }
        askAll();
        while (calls < CALLS) {
            step();
            look();
        }
    }

    /** Pictures of nearly the same part of the world, so that many are joined. */
    private void shootNear(int kind) throws Exception {
        int x = random.nextInt(1850);
        int y = random.nextInt(1850);
        int gain = kind == 1 ? 16 : 8 + random.nextInt(24);
        for (int p = 0; p < 2 + random.nextInt(3); p++) {
            int width = random.nextInt(3) == 0 ? 8 + random.nextInt(13) : 20;
            int height = random.nextInt(3) == 0 ? 8 + random.nextInt(13) : 20;
            int far = random.nextInt(4) == 0 ? 50 : 9;
            call("shoot", width, height, x + random.nextInt(far), y + random.nextInt(far), gain);
            gain = kind == 2 ? 8 + random.nextInt(24) : gain;
        }
        for (int k = 0; k < random.nextInt(40); k++) {
            call("dot", random.nextInt(4), random.nextInt(20), random.nextInt(20), random.nextInt(257) - 1);
        }
    }

    /** Pictures of a strip of the world: the first and the last have no place of both. */
    private void shootStrip() throws Exception {
        int x = random.nextInt(1850);
        int y = random.nextInt(1850);
        boolean down = random.nextBoolean();
        for (int p = 0; p < 3 + random.nextInt(2); p++) {
            call("shoot", 20, 20, x, y, 16);
            x += down ? random.nextInt(3) : 9 + random.nextInt(3);
            y += down ? 9 + random.nextInt(3) : random.nextInt(3);
        }
    }

    /** Pictures with few kinds of dots: many scores are alike. */
    private void paintSmall() throws Exception {
        int width = 8 + random.nextInt(5);
        int kinds = 2 + random.nextInt(3);
        for (int p = 0; p < 2; p++) {
            call("shoot", width, 8, random.nextInt(1900), random.nextInt(1900), 64);
            for (int i = 0; i < width; i++) {
                for (int j = 0; j < 8; j++) {
                    call("dot", p, i, j, random.nextInt(kinds) * 20);
                }
            }
        }
    }

    private void step() throws Exception {
        switch (random.nextInt(30)) {
            case 0: call("dot", picture(), random.nextInt(21), random.nextInt(21), -1); break;
            case 1: call("dot", picture(), random.nextInt(21), random.nextInt(21), random.nextInt(260) - 2); break;
            case 2: call("rules", some(1000), some(13)); break;
            case 3: call("seed", random.nextInt()); break;
            case 4: call("shoot", 7 + random.nextInt(15), 7 + random.nextInt(15), some(1901), some(1901), some(65)); break;
            case 5:
                if (random.nextInt(8) == 0) {
                    call("clear");
                    shootNear(1);
                }
                break;
            default: ask();
        }
    }

    private void askAll() throws Exception {
        for (int a = 0; a < 4; a++) {
            for (int what = 0; what < 4; what++) {
                call("place", a, what);
            }
            for (int b = 0; b < 4; b++) {
                call("shift", a, b, random.nextInt(4));
                call("overlap", a, b, random.nextInt(4));
                call("lights", a, b, random.nextInt(3));
                call("seam", a, b, random.nextInt(10) - 1);
            }
        }
        call("open");
        call("joined");
        for (int what = 0; what < 5; what++) {
            call("extent", what);
        }
    }

    private void ask() throws Exception {
        switch (random.nextInt(16)) {
            case 0: call("light", some(2001), some(2001)); break;
            case 1: call("at", picture(), some(20), some(20)); break;
            case 2: call("score", picture(), some(20), some(20)); break;
            case 3: call("marks", picture()); break;
            case 4: case 5: call("mark", picture(), some(10), some(4)); break;
            case 6: case 7: call("match", picture(), some(10), picture()); break;
            case 8: call("shift", picture(), picture(), some(4)); break;
            case 9: call("place", picture(), some(6)); break;
            case 10: call(random.nextBoolean() ? "open" : "joined"); break;
            case 11: call("overlap", picture(), picture(), some(4)); break;
            case 12: call("lights", picture(), picture(), some(3)); break;
            case 13: call("seam", picture(), picture(), some(20) - 1); break;
            case 14: call("whole", random.nextInt(50) - 15, random.nextInt(50) - 15, some(2)); break;
            default: call(random.nextBoolean() ? "extent" : "told", some(5)); break;
        }
    }

    private int picture() {
        return random.nextInt(12) == 0 ? some(5) : random.nextInt(4);
    }

    /** Mostly below the limit, now and then beside it or far out. */
    private int some(int limit) {
        int[] odd = {-1, -2, limit, limit + 1, Integer.MAX_VALUE, Integer.MIN_VALUE, random.nextInt()};
        return random.nextInt(16) == 0 ? odd[random.nextInt(odd.length)] : random.nextInt(limit);
    }

    private void call(String method, Object... args) throws Exception {
        if (calls >= CALLS) {
            return;
        }
        calls++;
        int got = (int) OF_CLASS.get(method).invoke(join, args);
        int want = (int) OF_MODEL.get(method).invoke(model, args);
        Check.due(name + ": call " + calls + ", " + method + java.util.Arrays.toString(args), got, want);
        if (method.equals("match") && want == -1) {
            seen("match refused");
        }
    }

    private void seen(String what) {
        SEEN.merge(what, 1, Integer::sum);
    }

    /** Notes what the model's state is like; asks the model alone. */
    private void look() {
        if (calls % 50 != 0 || model.told(0) == 0) {
            return;
        }
        List<Model.Spread> joined = new ArrayList<>(model.spreads().values());
        String[] names = {"", "one joined", "two joined", "three joined", "four joined"};
        seen(names[joined.size()]);
        if (model.open() > 0) {
            seen("open pairs");
        }
        for (Model.Spread a : joined) {
            if (a.by > 0) {
                seen("joined by another than 0");
            }
            if (a.rank != a.picture) {
                seen("joined out of order");
            }
            for (Model.Spread b : joined) {
                if (a.picture < b.picture) {
                    lookAtPair(a.picture, b.picture);
                }
            }
        }
    }

    private void lookAtPair(int a, int b) {
        Model.Move move = model.move(a, b);
        if (move != null && move.ties > 0) {
            seen("a shift of several");
        }
        if (move != null && move.votes > 2) {
            seen("votes of 3");
        }
        int area = model.overlap(a, b, 2) * model.overlap(a, b, 3);
        if (area == 0) {
            seen("no overlap though joined");
        } else if (model.lights(a, b, 2) < area) {
            seen("lost in an overlap");
        }
        for (int row = 1; row < model.overlap(a, b, 3); row++) {
            if (model.seam(a, b, row) != model.seam(a, b, 0)) {
                seen("a crooked seam");
                return;
            }
        }
    }
}
