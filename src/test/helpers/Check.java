/** Counts and prints the calls whose answer is not the one that is due. */
public final class Check {
    private static int wrong = 0;
    private static int checked = 0;

    private Check() {
    }

    public static void due(String call, long got, long want) {
        checked++;
        if (got != want) {
            wrong++;
            if (wrong <= 50) {
                System.out.println(call + " answered " + got + ", due is " + want);
            }
        }
    }

    public static void that(String what, boolean holds) {
        checked++;
        if (!holds) {
            wrong++;
            System.out.println("not so: " + what);
        }
    }

    /** Ends the program: with exit code 1 if an answer was wrong. */
    public static void end() {
        System.out.println(checked + " checks, " + wrong + " wrong");
        System.exit(wrong == 0 ? 0 : 1);
    }
}
