import java.util.ArrayList;
import java.util.List;

/** All that an object tells of itself, as lines: two objects in the same state have like lines. */
public final class State {
    private static final int SOME_MARKS = 6;

    private final PictureJoin join;
    private final List<String> lines = new ArrayList<>();

    private State(PictureJoin join) {
        this.join = join;
    }

    /** Takes some 430 calls of the 512. */
    public static List<String> of(PictureJoin join) {
        State state = new State(join);
        state.tellAll();
        for (int a = 0; a < 4; a++) {
            state.tellPicture(a);
            for (int b = 0; b < 4; b++) {
                if (a != b) {
                    state.tellPair(a, b);
                }
            }
        }
        return state.lines;
    }

    private void line(String name, int... answers) {
        lines.add(name + " " + java.util.Arrays.toString(answers));
    }

    private void tellAll() {
        line("told", join.told(0), join.told(1), join.told(2), join.told(3));
        line("joined, open", join.joined(), join.open());
        line("extent", join.extent(0), join.extent(1), join.extent(2), join.extent(3), join.extent(4));
        for (int k = -6; k < 24; k += 3) {
            line("whole " + k, join.whole(k, k, 0), join.whole(k, k + 4, 1));
        }
        line("light", join.light(3, 4));
    }

    private void tellPicture(int p) {
        line("place " + p, join.place(p, 0), join.place(p, 1), join.place(p, 2), join.place(p, 3), join.place(p, 4), join.place(p, 5));
        line("marks " + p, join.marks(p));
        for (int m = 0; m < SOME_MARKS; m++) {
            line("mark " + p + " " + m, join.mark(p, m, 0), join.mark(p, m, 1), join.mark(p, m, 2), join.mark(p, m, 3));
        }
        for (int k = 0; k < 20; k += 3) {
            line("dot " + p + " " + k, join.at(p, k, k), join.score(p, k, k));
        }
    }

    private void tellPair(int a, int b) {
        String pair = " " + a + " " + b;
        line("shift" + pair, join.shift(a, b, 0), join.shift(a, b, 1), join.shift(a, b, 2), join.shift(a, b, 3));
        line("match" + pair, join.match(a, 0, b), join.match(a, 1, b), join.match(a, 2, b));
        line("overlap" + pair, join.overlap(a, b, 0), join.overlap(a, b, 1), join.overlap(a, b, 2), join.overlap(a, b, 3));
        line("lights" + pair, join.lights(a, b, 0), join.lights(a, b, 1), join.lights(a, b, 2));
        line("seam" + pair, join.seam(a, b, -1), join.seam(a, b, 7));
    }
}
