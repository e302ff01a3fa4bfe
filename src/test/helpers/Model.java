import java.util.ArrayList;
import java.util.Comparator;
import java.util.LinkedHashMap;
import java.util.List;
import java.util.Map;
import java.util.TreeMap;

/**
 * The document once more, written the long way round, with lists and maps, all made anew after each
 * change. Tests hold the class against it.
 */
public final class Model {
    private static final int LOST = -1000000;

    /** One picture as told. */
    private static final class Shot {
        int w;
        int h;
        int[][] dots;
    }

    /** A mark: where, how much, its sign. */
    public static final class Spot {
        public int i;
        public int j;
        public int score;
        public int sign;
    }

    /** The shift of two pictures. */
    public static final class Move {
        public int x;
        public int y;
        public int votes;
        public int ties;
    }

    /** Where a joined picture lies. */
    public static final class Spread {
        public int picture;
        public int x;
        public int y;
        public int by;
        public int rank;
    }

    private final List<Shot> shots = new ArrayList<>();
    private int seed = 0;
    private int bar = 5000;
    private int near = 2;
    private final Map<Integer, List<Spot>> knownSpots = new TreeMap<>();
    private Map<Integer, Spread> knownSpreads = null;

    private void forget() {
        knownSpots.clear();
        knownSpreads = null;
    }

    public int seed(int s) {
        int was = seed;
        seed = s;
        return was;
    }

    private int worldLight(int x, int y) {
        int m = (x / 3) * 73856093;
        m = m + (y / 3) * 19349663;
        m = m + seed * 83492791;
        for (int twice = 1; twice <= 2; twice++) {
            int shifted = m >>> 15;
            m = (m ^ shifted) * 739982445;
        }
        return (m >> 16) & 0xff;
    }

    public int light(int x, int y) {
        if (x < 0 || y < 0 || x > 2000 || y > 2000) {
            return -2;
        }
        return worldLight(x, y);
    }

    public int shoot(int w, int h, int x, int y, int gain) {
        if (w < 8 || w > 20 || h < 8 || h > 20 || x < 0 || x > 1900 || y < 0 || y > 1900) {
            return -2;
        }
        if (gain < 1 || gain > 64) {
            return -2;
        }
        if (shots.size() == 4) {
            return -4;
        }
        Shot shot = new Shot();
        shot.w = w;
        shot.h = h;
        shot.dots = new int[w][h];
        for (int i = 0; i < w; i++) {
            for (int j = 0; j < h; j++) {
                int lit = (gain * worldLight(x + i, y + j)) / 16;
                shot.dots[i][j] = lit > 255 ? 255 : lit;
            }
        }
        shots.add(shot);
        forget();
        return shots.size() - 1;
    }

    public int clear() {
        int were = shots.size();
        shots.clear();
        forget();
        return were;
    }

    private boolean unknownDot(int picture, int i, int j) {
        if (picture < 0 || picture >= shots.size()) {
            return true;
        }
        Shot shot = shots.get(picture);
        return i < 0 || j < 0 || i >= shot.w || j >= shot.h;
    }

    public int dot(int picture, int i, int j, int v) {
        if (unknownDot(picture, i, j)) {
            return LOST - 1;
        }
        if (v < -1 || v > 255) {
            return LOST - 2;
        }
        int was = shots.get(picture).dots[i][j];
        shots.get(picture).dots[i][j] = v;
        forget();
        return was;
    }

    public int at(int picture, int i, int j) {
        return unknownDot(picture, i, j) ? LOST - 1 : shots.get(picture).dots[i][j];
    }

    public int rules(int newBar, int newNear) {
        if (newBar < 1 || newBar > 1000000 || newNear < 0 || newNear > 12) {
            return -2;
        }
        bar = newBar;
        near = newNear;
        forget();
        return 1;
    }

    private int[] sums(Shot s, int i, int j) {
        int[][] ways = {{1, 0}, {0, 1}, {1, 1}, {1, -1}};
        int[] sums = new int[4];
        for (int way = 0; way < 4; way++) {
            for (int about = 0; about < 9; about++) {
                int x = i + about % 3 - 1;
                int y = j + about / 3 - 1;
                int here = s.dots[x][y];
                int there = s.dots[x + ways[way][0]][y + ways[way][1]];
                if (here < 0 || there < 0) {
                    return null;
                }
                sums[way] += (int) Math.pow(here - there, 2);
            }
        }
        return sums;
    }

    private int scoreIn(Shot s, int i, int j) {
        if (i < 3 || j < 3 || i > s.w - 4 || j > s.h - 4) {
            return 0;
        }
        int[] sums = sums(s, i, j);
        if (sums == null) {
            return 0;
        }
        java.util.Arrays.sort(sums);
        return sums[0];
    }

    public int score(int picture, int i, int j) {
        return unknownDot(picture, i, j) ? -1 : scoreIn(shots.get(picture), i, j);
    }

    /** All marks of a picture, more than 16 too. */
    public List<Spot> allSpots(int picture) {
        Shot s = shots.get(picture);
        int[][] scores = new int[s.w][s.h];
        for (int i = 0; i < s.w; i++) {
            for (int j = 0; j < s.h; j++) {
                scores[i][j] = scoreIn(s, i, j);
            }
        }
        List<Spot> spots = new ArrayList<>();
        for (int i = 3; i <= s.w - 4; i++) {
            for (int j = 3; j <= s.h - 4; j++) {
                if (scores[i][j] < bar) {
                    continue;
                }
                boolean greatest = true;
                for (int x = i - 2; x <= i + 2; x++) {
                    for (int y = j - 2; y <= j + 2; y++) {
                        if (x == i && y == j) {
                            continue;
                        }
                        // in the order of rows, then columns, each dot has a number
                        boolean ahead = y * 100 + x < j * 100 + i;
                        greatest &= scores[x][y] < scores[i][j] || (scores[x][y] == scores[i][j] && !ahead);
                    }
                }
                if (greatest) {
                    Spot spot = new Spot();
                    spot.i = i;
                    spot.j = j;
                    spot.score = scores[i][j];
                    spot.sign = signIn(s, i, j);
                    spots.add(spot);
                }
            }
        }
        spots.sort(Comparator.comparingInt((Spot p) -> -p.score).thenComparingInt(p -> p.j).thenComparingInt(p -> p.i));
        return spots;
    }

    private List<Spot> spots(int picture) {
        if (!knownSpots.containsKey(picture)) {
            List<Spot> all = allSpots(picture);
            knownSpots.put(picture, all.size() > 16 ? all.subList(0, 16) : all);
        }
        return knownSpots.get(picture);
    }

    private int signIn(Shot s, int i, int j) {
        StringBuilder bits = new StringBuilder();
        for (int k = 11; k >= 0; k--) {
            int one = s.dots[i + (k % 5 - 2)][j + (k % 3 - 1)];
            int other = s.dots[i + (2 - k % 4)][j + (k % 5 - 2)];
            bits.append(one < other ? '1' : '0');
        }
        return Integer.parseInt(bits.toString(), 2);
    }

    private boolean unknown(int picture) {
        return picture < 0 || picture >= shots.size();
    }

    public int marks(int picture) {
        return unknown(picture) ? -1 : spots(picture).size();
    }

    public int mark(int picture, int m, int what) {
        if (unknown(picture) || m < 0 || m >= spots(picture).size()) {
            return -1;
        }
        if (what < 0 || what > 3) {
            return -2;
        }
        Spot spot = spots(picture).get(m);
        return new int[] {spot.i, spot.j, spot.score, spot.sign}[what];
    }

    private static int distance(Spot one, Spot other) {
        int bits = 0;
        for (int k = 0; k < 12; k++) {
            if ((one.sign >> k & 1) != (other.sign >> k & 1)) {
                bits++;
            }
        }
        return bits;
    }

    /** Partner of each mark of a, -6 without one. */
    private List<Integer> partners(List<Spot> a, List<Spot> b) {
        List<Integer> partners = new ArrayList<>();
        for (int m = 0; m < a.size(); m++) {
            int partner = -6;
            for (int n = 0; n < b.size(); n++) {
                int d = distance(a.get(m), b.get(n));
                boolean best = d <= near;
                for (int o = 0; o < b.size(); o++) {
                    int e = distance(a.get(m), b.get(o));
                    best &= o < n ? e > d : e >= d;
                }
                for (int o = 0; o < a.size(); o++) {
                    int e = distance(a.get(o), b.get(n));
                    best &= o < m ? e > d : e >= d;
                }
                if (best) {
                    partner = n;
                }
            }
            partners.add(partner);
        }
        return partners;
    }

    public int match(int a, int m, int b) {
        if (unknown(a) || unknown(b) || a == b || m < 0 || m >= spots(a).size()) {
            return -1;
        }
        return partners(spots(a), spots(b)).get(m);
    }

    /** The shift, or null. */
    public Move move(int a, int b) {
        List<Spot> of = spots(a);
        List<Spot> to = spots(b);
        List<Integer> partners = partners(of, to);
        Map<Integer, Integer> votes = new TreeMap<>();
        for (int m = 0; m < of.size(); m++) {
            if (partners.get(m) >= 0) {
                Spot other = to.get(partners.get(m));
                int key = (of.get(m).i - other.i) * 1000 + of.get(m).j - other.j + 500;
                votes.merge(key, 1, Integer::sum);
            }
        }
        Move move = null;
        for (Map.Entry<Integer, Integer> vote : votes.entrySet()) {
            if (vote.getValue() < 2) {
                continue;
            }
            if (move != null && move.votes == vote.getValue()) {
                move.ties++;
            }
            if (move == null || vote.getValue() > move.votes) {
                move = new Move();
                move.x = Math.floorDiv(vote.getKey(), 1000);
                move.y = Math.floorMod(vote.getKey(), 1000) - 500;
                move.votes = vote.getValue();
            }
        }
        return move;
    }

    public int shift(int a, int b, int what) {
        if (unknown(a) || unknown(b) || a == b) {
            return LOST - 1;
        }
        if (what < 0 || what > 3) {
            return LOST - 2;
        }
        Move move = move(a, b);
        if (what == 3) {
            int matches = 0;
            for (int partner : partners(spots(a), spots(b))) {
                matches += partner >= 0 ? 1 : 0;
            }
            return matches;
        }
        if (what == 2) {
            return move == null ? 0 : move.votes;
        }
        if (move == null) {
            return LOST - 5;
        }
        return what == 0 ? move.x : move.y;
    }

    /** The joined pictures by their numbers, in the order in which they were joined. */
    public Map<Integer, Spread> spreads() {
        if (knownSpreads == null) {
            knownSpreads = spreadOut();
        }
        return knownSpreads;
    }

    private Map<Integer, Spread> spreadOut() {
        Map<Integer, Spread> joined = new LinkedHashMap<>();
        if (shots.isEmpty()) {
            return joined;
        }
        Spread first = new Spread();
        first.by = -6;
        joined.put(0, first);
        while (true) {
            Spread next = null;
            int most = 0;
            for (int a = 0; a < shots.size(); a++) {
                for (int b = 0; b < shots.size(); b++) {
                    if (!joined.containsKey(a) || joined.containsKey(b)) {
                        continue;
                    }
                    Move move = move(a, b);
                    if (move != null && move.votes > most) {
                        most = move.votes;
                        next = new Spread();
                        next.picture = b;
                        next.x = joined.get(a).x + move.x;
                        next.y = joined.get(a).y + move.y;
                        next.by = a;
                        next.rank = joined.size();
                    }
                }
            }
            if (next == null) {
                return joined;
            }
            joined.put(next.picture, next);
        }
    }

    public int place(int picture, int what) {
        if (unknown(picture)) {
            return LOST - 1;
        }
        if (what < 0 || what > 5) {
            return LOST - 2;
        }
        if (what > 3) {
            return what == 4 ? shots.get(picture).w : shots.get(picture).h;
        }
        Spread spread = spreads().get(picture);
        if (spread == null) {
            return LOST - 5;
        }
        return new int[] {spread.x, spread.y, spread.by, spread.rank}[what];
    }

    public int open() {
        Map<Integer, Spread> joined = spreads();
        int open = 0;
        for (Spread a : joined.values()) {
            for (Spread b : joined.values()) {
                if (a.picture >= b.picture || a.by == b.picture || b.by == a.picture) {
                    continue;
                }
                Move move = move(a.picture, b.picture);
                if (move != null && !(b.x - a.x == move.x && b.y - a.y == move.y)) {
                    open++;
                }
            }
        }
        return open;
    }

    public int joined() {
        return spreads().size();
    }

    private int refused(int a, int b, int what, int most) {
        if (unknown(a) || unknown(b) || a == b) {
            return -1;
        }
        if (what < 0 || what > most) {
            return -2;
        }
        Map<Integer, Spread> joined = spreads();
        return joined.containsKey(a) && joined.containsKey(b) ? 0 : -5;
    }

    private boolean covers(Spread spread, int x, int y) {
        Shot shot = shots.get(spread.picture);
        return x >= spread.x && y >= spread.y && (long) x - spread.x < shot.w && (long) y - spread.y < shot.h;
    }

    private int dotAt(Spread spread, int x, int y) {
        return shots.get(spread.picture).dots[x - spread.x][y - spread.y];
    }

    /** The places that both cover, by rows. */
    private List<int[]> shared(int a, int b) {
        Spread one = spreads().get(a);
        Spread other = spreads().get(b);
        List<int[]> places = new ArrayList<>();
        for (int y = one.y; y < one.y + shots.get(a).h; y++) {
            for (int x = one.x; x < one.x + shots.get(a).w; x++) {
                if (covers(other, x, y)) {
                    places.add(new int[] {x, y});
                }
            }
        }
        return places;
    }

    public int overlap(int a, int b, int what) {
        int refused = refused(a, b, what, 3);
        if (refused != 0) {
            return LOST + refused;
        }
        List<int[]> places = shared(a, b);
        if (places.isEmpty()) {
            return 0;
        }
        int[] first = places.get(0);
        int[] last = places.get(places.size() - 1);
        return what < 2 ? first[what] : last[what - 2] - first[what - 2] + 1;
    }

    public int lights(int a, int b, int what) {
        int refused = refused(a, b, what, 2);
        if (refused != 0) {
            return LOST + refused;
        }
        int[] sums = new int[3];
        for (int[] p : shared(a, b)) {
            int one = dotAt(spreads().get(a), p[0], p[1]);
            int other = dotAt(spreads().get(b), p[0], p[1]);
            if (one >= 0 && other >= 0) {
                sums[0] += one;
                sums[1] += other;
                sums[2]++;
            }
        }
        return sums[what];
    }

    /** From above: for each column the cheapest way to it, and of like ones that which is farther left. */
    public int seam(int a, int b, int i) {
        int refused = refused(a, b, 0, 0);
        if (refused != 0) {
            return refused;
        }
        int width = overlap(a, b, 2);
        int height = overlap(a, b, 3);
        if (width == 0 || i < -1 || i >= height) {
            return -6;
        }
        List<int[]> places = shared(a, b);
        Spread one = spreads().get(a);
        Spread other = spreads().get(b);
        // a way: its columns, and what it costs at the end
        List<int[]> ways = new ArrayList<>();
        for (int row = 0; row < height; row++) {
            List<int[]> longer = new ArrayList<>();
            for (int column = 0; column < width; column++) {
                int[] p = places.get(row * width + column);
                int first = dotAt(one, p[0], p[1]);
                int second = dotAt(other, p[0], p[1]);
                int cost = first < 0 || second < 0 ? 255 : Math.max(first, second) - Math.min(first, second);
                int[] best = null;
                if (row == 0) {
                    best = new int[height + 1];
                }
                for (int from = Math.max(0, column - 1); row > 0 && from <= Math.min(width - 1, column + 1); from++) {
                    if (best == null || ahead(ways.get(from), best, height)) {
                        best = ways.get(from);
                    }
                }
                int[] way = best.clone();
                way[row] = column;
                way[height] += cost;
                longer.add(way);
            }
            ways = longer;
        }
        int[] best = ways.get(0);
        for (int[] way : ways) {
            if (ahead(way, best, height)) {
                best = way;
            }
        }
        return i == -1 ? best[height] : best[i];
    }

    private static boolean ahead(int[] way, int[] than, int height) {
        if (way[height] != than[height]) {
            return way[height] < than[height];
        }
        for (int row = 0; row < height; row++) {
            if (way[row] != than[row]) {
                return way[row] < than[row];
            }
        }
        return false;
    }

    public int whole(int x, int y, int what) {
        if (what < 0 || what > 1) {
            return -2;
        }
        for (Spread spread : spreads().values()) {
            if (covers(spread, x, y) && dotAt(spread, x, y) >= 0) {
                return what == 0 ? dotAt(spread, x, y) : spread.picture;
            }
        }
        return -6;
    }

    public int extent(int what) {
        if (what < 0 || what > 4) {
            return LOST - 2;
        }
        if (shots.isEmpty()) {
            return LOST - 5;
        }
        List<Integer> xs = new ArrayList<>();
        List<Integer> ys = new ArrayList<>();
        java.util.Set<String> places = new java.util.HashSet<>();
        for (Spread s : spreads().values()) {
            Shot shot = shots.get(s.picture);
            for (int i = 0; i < shot.w; i++) {
                for (int j = 0; j < shot.h; j++) {
                    xs.add(s.x + i);
                    ys.add(s.y + j);
                    if (shot.dots[i][j] >= 0) {
                        places.add((s.x + i) + " " + (s.y + j));
                    }
                }
            }
        }
        switch (what) {
            case 0: return java.util.Collections.min(xs);
            case 1: return java.util.Collections.min(ys);
            case 2: return java.util.Collections.max(xs);
            case 3: return java.util.Collections.max(ys);
            default: return places.size();
        }
    }

    public int told(int what) {
        if (what < 0 || what > 3) {
            return LOST - 2;
        }
        return new int[] {shots.size(), bar, near, seed}[what];
    }
}
