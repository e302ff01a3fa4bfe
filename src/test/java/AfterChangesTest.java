import java.lang.reflect.Method;
import java.util.Map;
import java.util.TreeMap;
import java.util.TreeSet;

/**
 * Each call that asks, as the first one after each call that changes: what it answers is what follows from the
 * dots and rules as they are now, not as they were when something was asked last. Held against the model.
 */
public final class AfterChangesTest {
    private static final String[] CHANGES = {"dots", "bar", "near", "shoot", "clear", "clear and shoot", "seed"};
    private static final Map<String, Method> OF_CLASS = new TreeMap<>();
    private static final Map<String, Method> OF_MODEL = new TreeMap<>();

    private final PictureJoin join = new PictureJoin();
    private final Model model = new Model();

    public static void main(String[] args) throws Exception {
        for (Method own : PictureJoin.class.getDeclaredMethods()) {
            OF_CLASS.put(own.getName(), own);
        }
        for (Method method : Model.class.getDeclaredMethods()) {
            if (OF_CLASS.containsKey(method.getName()) && method.getReturnType() == int.class) {
                OF_MODEL.put(method.getName(), method);
            }
        }
        int[][] none = {{}};
        asks("open", none);
        asks("joined", none);
        asks("marks", grid(4));
        asks("mark", grid(4, 3, 4));
        asks("match", grid(4, 5, 4));
        asks("shift", grid(4, 4, 4));
        asks("place", grid(4, 6));
        asks("overlap", grid(4, 4, 4));
        asks("lights", grid(4, 4, 3));
        asks("seam", grid(4, 4, 8));
        asks("whole", grid(24, 24, 2));
        asks("extent", grid(5));
        asks("score", grid(4, 12, 12));
        asks("at", grid(4, 12, 12));
        asks("told", grid(4));
        asks("light", grid(6, 6));
        Check.end();
    }

    /** All arguments from 0 up to below these limits; a fourth of them is enough where there are many. */
    private static int[][] grid(int... limits) {
        int all = 1;
        for (int limit : limits) {
            all *= limit;
        }
        int step = all > 200 ? 7 : 1;
        int[][] rows = new int[(all + step - 1) / step][limits.length];
        for (int k = 0; k < rows.length; k++) {
            int rest = k * step;
            for (int n = limits.length - 1; n >= 0; n--) {
                rows[k][n] = rest % limits[n];
                rest /= limits[n];
            }
        }
        return rows;
    }

    private static void asks(String method, int[][] grid) throws Exception {
        TreeSet<String> told = new TreeSet<>();
        for (String change : CHANGES) {
            for (int[] row : grid) {
                Object[] args = new Object[row.length];
                for (int n = 0; n < args.length; n++) {
                    args[n] = row[n];
                }
                AfterChangesTest pair = new AfterChangesTest();
                pair.begin();
                int before = (int) OF_MODEL.get(method).invoke(pair.model, args);
                pair.change(change);
                int got = (int) OF_CLASS.get(method).invoke(pair.join, args);
                int due = (int) OF_MODEL.get(method).invoke(pair.model, args);
                Check.due(method + java.util.Arrays.toString(row) + " after " + change, got, due);
                if (before != due) {
                    told.add(change);
                }
            }
        }
        boolean bySeed = method.equals("told") || method.equals("light");
        Check.that(method + " tells of changes: " + told, told.size() >= (method.equals("light") ? 1 : 3));
        Check.due(method + " tells of the seed alone", told.contains("seed") ? 1 : 0, bySeed ? 1 : 0);
    }

    private int call(String method, Object... args) throws Exception {
        int got = (int) OF_CLASS.get(method).invoke(join, args);
        Check.due(method + java.util.Arrays.toString(args), got, (int) OF_MODEL.get(method).invoke(model, args));
        return got;
    }

    /** Three pictures, all joined, one pair open. */
    private void begin() throws Exception {
        call("seed", 25937);
        call("rules", 300, 1);
        call("shoot", 20, 20, 300, 400, 16);
        call("shoot", 20, 18, 303, 402, 16);
        call("shoot", 19, 20, 295, 406, 24);
        Check.due("open", call("open"), 1);
    }

    private void change(String change) throws Exception {
        switch (change) {
            case "dots":
                for (int k = 0; k < 20; k++) {
                    call("dot", 1, k, 9, 0);
                    call("dot", 0, k % 20, 10, -1);
                }
                break;
            case "bar": call("rules", 1000000, 1); break;
            case "near": call("rules", 300, 12); break;
            case "shoot": call("shoot", 18, 20, 304, 401, 16); break;
            case "clear": call("clear"); break;
            case "clear and shoot":
                call("clear");
                call("shoot", 20, 20, 303, 402, 16);
                call("shoot", 20, 20, 300, 400, 16);
                break;
            default: call("seed", 25938); break;
        }
    }
}
