/** Many pictures, one: marks, matches, shifts, places, seams and the whole of up to four pictures. */
public final class PictureJoin {
    public static final int NONE = -6, UNKNOWN = -1, OUTSIDE = -2, FULL = -4, NO = -5;
    public static final int LOST = -1000000;

    private static final int MOST_PICTURES = 4;
    private static final int LEAST_SIDE = 8, MOST_SIDE = 20;
    private static final int MOST_DOTS = MOST_SIDE * MOST_SIDE;
    private static final int MOST_MARKS = 16;
    private static final int LOST_DOT = -1, BRIGHTEST = 255;
    private static final int WORLD_END = 2000, LAST_CORNER = 1900;
    private static final int MOST_GAIN = 64, PLAIN_GAIN = 16;
    private static final int MOST_SCORE = 9 * BRIGHTEST * BRIGHTEST;
    private static final int MOST_BAR = 1000000, SIGN_BITS = 12;
    private static final int NOT_REFUSED = 0;

    private final World world;
    private final Album album;
    private final Overlap common;
    private final Seam cut;
    private int bar;
    private int near;

    public PictureJoin() {
        world = new World();
        album = new Album();
        common = new Overlap();
        cut = new Seam();
        bar = 5000;
        near = 2;
    }

    // ---- 1 pictures, marks

    public int seed(int s) {
        int before = world.seed;
        world.seed = s;
        return before;
    }

    public int light(int x, int y) {
        boolean fits = within(x, 0, WORLD_END) && within(y, 0, WORLD_END);
        return fits ? world.lightAt(x, y) : OUTSIDE;
    }

    public int shoot(int w, int h, int x, int y, int gain) {
        boolean fits = within(w, LEAST_SIDE, MOST_SIDE) && within(h, LEAST_SIDE, MOST_SIDE)
                && within(x, 0, LAST_CORNER) && within(y, 0, LAST_CORNER) && within(gain, 1, MOST_GAIN);
        if (!fits) {
            return OUTSIDE;
        }
        if (album.count >= MOST_PICTURES) {
            return FULL;
        }
        Dots dots = album.pictures[album.count].dots;
        dots.resize(w, h);
        world.shootInto(dots, x, y, gain);
        album.stale = true;
        album.count++;
        return album.count - 1;
    }

    public int clear() {
        int before = album.count;
        album.count = 0;
        album.stale = true;
        return before;
    }

    public int dot(int picture, int i, int j, int v) {
        if (!isDot(picture, i, j)) {
            return LOST + UNKNOWN;
        }
        if (!within(v, LOST_DOT, BRIGHTEST)) {
            return LOST + OUTSIDE;
        }
        Dots dots = album.pictures[picture].dots;
        int before = dots.get(i, j);
        dots.put(i, j, v);
        album.stale = true;
        return before;
    }

    public int at(int picture, int i, int j) {
        return isDot(picture, i, j) ? album.pictures[picture].dots.get(i, j) : LOST + UNKNOWN;
    }

    public int rules(int bar, int near) {
        if (!within(bar, 1, MOST_BAR) || !within(near, 0, SIGN_BITS)) {
            return OUTSIDE;
        }
        this.bar = bar;
        this.near = near;
        album.stale = true;
        return 1;
    }

    public int score(int picture, int i, int j) {
        return isDot(picture, i, j) ? album.pictures[picture].dots.scoreOf(i, j) : UNKNOWN;
    }

    public int marks(int picture) {
        if (!isPicture(picture)) {
            return UNKNOWN;
        }
        album.settle(bar, near);
        return album.pictures[picture].marks.count;
    }

    public int mark(int picture, int m, int what) {
        album.settle(bar, near);
        if (!isMark(picture, m)) {
            return UNKNOWN;
        }
        Marks marks = album.pictures[picture].marks;
        switch (what) {
            case 0: return marks.columns[m];
            case 1: return marks.rows[m];
            case 2: return marks.heights[m];
            case 3: return marks.signs[m];
            default: return OUTSIDE;
        }
    }

    // ---- 2 matches, shifts, places

    public int match(int a, int m, int b) {
        album.settle(bar, near);
        if (!isMark(a, m) || !areTwo(a, b)) {
            return UNKNOWN;
        }
        return album.pairingOf(a, b).partners[m];
    }

    public int shift(int a, int b, int what) {
        if (!areTwo(a, b)) {
            return LOST + UNKNOWN;
        }
        if (!within(what, 0, 3)) {
            return LOST + OUTSIDE;
        }
        album.settle(bar, near);
        Pairing pairing = album.pairingOf(a, b);
        if (what == 3) {
            return pairing.matches;
        }
        if (what == 2) {
            return pairing.votes;
        }
        if (pairing.votes == 0) {
            return LOST + NO;
        }
        return what == 0 ? pairing.x : pairing.y;
    }

    public int place(int picture, int what) {
        if (!isPicture(picture)) {
            return LOST + UNKNOWN;
        }
        if (!within(what, 0, 5)) {
            return LOST + OUTSIDE;
        }
        album.settle(bar, near);
        Picture told = album.pictures[picture];
        if (what == 4) {
            return told.dots.width;
        }
        if (what == 5) {
            return told.dots.height;
        }
        if (!told.isJoined()) {
            return LOST + NO;
        }
        switch (what) {
            case 0: return told.x;
            case 1: return told.y;
            case 2: return told.joiner;
            default: return told.rank;
        }
    }

    public int open() {
        album.settle(bar, near);
        return album.countOpen();
    }

    public int joined() {
        album.settle(bar, near);
        return album.joinedCount;
    }

    // ---- 3 the whole

    public int overlap(int a, int b, int what) {
        album.settle(bar, near);
        int refusal = refusalOfTwo(a, b, within(what, 0, 3));
        if (refusal != NOT_REFUSED) {
            return LOST + refusal;
        }
        common.find(album.pictures[a], album.pictures[b]);
        switch (what) {
            case 0: return common.x;
            case 1: return common.y;
            case 2: return common.width;
            default: return common.height;
        }
    }

    public int lights(int a, int b, int what) {
        album.settle(bar, near);
        int refusal = refusalOfTwo(a, b, within(what, 0, 2));
        if (refusal != NOT_REFUSED) {
            return LOST + refusal;
        }
        common.find(album.pictures[a], album.pictures[b]);
        common.compare(album.pictures[a], album.pictures[b]);
        switch (what) {
            case 0: return common.firstLight;
            case 1: return common.secondLight;
            default: return common.bothTold;
        }
    }

    public int seam(int a, int b, int i) {
        album.settle(bar, near);
        int refusal = refusalOfTwo(a, b, true);
        if (refusal != NOT_REFUSED) {
            return refusal;
        }
        common.find(album.pictures[a], album.pictures[b]);
        if (!common.isThere() || !within(i, -1, common.height - 1)) {
            return NONE;
        }
        cut.find(common, album.pictures[a], album.pictures[b]);
        return i == -1 ? cut.cost : cut.columns[i];
    }

    public int whole(int x, int y, int what) {
        if (!within(what, 0, 1)) {
            return OUTSIDE;
        }
        album.settle(bar, near);
        int picture = album.firstAt(x, y);
        if (!isPicture(picture)) {
            return NONE;
        }
        return what == 0 ? album.pictures[picture].dotAt(x, y) : picture;
    }

    public int extent(int what) {
        if (!within(what, 0, 4)) {
            return LOST + OUTSIDE;
        }
        if (album.count == 0) {
            return LOST + NO;
        }
        album.settle(bar, near);
        return what == 4 ? album.countPlaces() : album.edge(what);
    }

    public int told(int what) {
        switch (what) {
            case 0: return album.count;
            case 1: return bar;
            case 2: return near;
            case 3: return world.seed;
            default: return LOST + OUTSIDE;
        }
    }

    private static boolean within(int number, int least, int most) {
        return number >= least && number <= most;
    }

    private boolean isPicture(int picture) {
        return within(picture, 0, album.count - 1);
    }

    private boolean isDot(int picture, int i, int j) {
        return isPicture(picture) && album.pictures[picture].dots.has(i, j);
    }

    /** Only for a settled album: before that the marks are those of earlier dots. */
    private boolean isMark(int picture, int m) {
        return isPicture(picture) && within(m, 0, album.pictures[picture].marks.count - 1);
    }

    private boolean areTwo(int a, int b) {
        return isPicture(a) && isPicture(b) && a != b;
    }

    /** Only for a settled album: before that pictures are joined as they were. */
    private int refusalOfTwo(int a, int b, boolean fits) {
        if (!areTwo(a, b)) {
            return UNKNOWN;
        }
        if (!fits) {
            return OUTSIDE;
        }
        return album.pictures[a].isJoined() && album.pictures[b].isJoined() ? NOT_REFUSED : NO;
    }

    /** The made world: a light for every place, by the seed alone. */
    private static final class World {
        int seed;

        int lightAt(int x, int y) {
            int m = x / 3 * 73856093 + y / 3 * 19349663 + seed * 83492791;
            m = (m ^ (m >>> 15)) * 739982445;
            m = (m ^ (m >>> 15)) * 739982445;
            return (m >>> 16) & 255;
        }

        void shootInto(Dots dots, int x, int y, int gain) {
            for (int j = 0; j < dots.height; j++) {
                for (int i = 0; i < dots.width; i++) {
                    dots.put(i, j, Math.min(BRIGHTEST, gain * lightAt(x + i, y + j) / PLAIN_GAIN));
                }
            }
        }
    }

    /** The dots of one picture, i the column and j the row, and what is seen of them. */
    private static final class Dots {
        private static final int[] WAYS_X = {1, 0, 1, 1};
        private static final int[] WAYS_Y = {0, 1, 1, -1};
        private static final int RIM = 3;

        final int[] values = new int[MOST_DOTS];
        final int[] scores = new int[MOST_DOTS];
        int width;
        int height;
        boolean changed;

        void resize(int w, int h) {
            width = Math.min(w, MOST_SIDE);
            height = Math.min(h, MOST_SIDE);
            changed = true;
        }

        boolean has(int i, int j) {
            return i >= 0 && i < width && j >= 0 && j < height;
        }

        int get(int i, int j) {
            return has(i, j) ? values[j * MOST_SIDE + i] : LOST_DOT;
        }

        void put(int i, int j, int value) {
            if (has(i, j)) {
                values[j * MOST_SIDE + i] = value;
                changed = true;
            }
        }

        int scoreOf(int i, int j) {
            if (!within(i, RIM, width - 1 - RIM) || !within(j, RIM, height - 1 - RIM)) {
                return 0;
            }
            int least = MOST_SCORE;
            for (int way = 0; way < WAYS_X.length && way < WAYS_Y.length; way++) {
                int sum = changeAbout(i, j, WAYS_X[way], WAYS_Y[way]);
                if (sum == LOST_DOT) {
                    return 0;
                }
                least = Math.min(least, sum);
            }
            return least;
        }

        /** The sum for one way, or LOST_DOT if a dot that it needs is lost. */
        private int changeAbout(int i, int j, int wayX, int wayY) {
            int sum = 0;
            for (int row = j - 1; row <= j + 1; row++) {
                for (int column = i - 1; column <= i + 1; column++) {
                    int from = get(column, row);
                    int to = get(column + wayX, row + wayY);
                    if (from == LOST_DOT || to == LOST_DOT) {
                        return LOST_DOT;
                    }
                    sum += (from - to) * (from - to);
                }
            }
            return sum;
        }

        /** Keeps all scores: looking for marks asks for each of them many times. */
        void scoreAll() {
            if (!changed) {
                return;
            }
            for (int j = 0; j < height; j++) {
                for (int i = 0; i < width; i++) {
                    scores[j * MOST_SIDE + i] = scoreOf(i, j);
                }
            }
            changed = false;
        }

        int keptScore(int i, int j) {
            return has(i, j) ? scores[j * MOST_SIDE + i] : 0;
        }

        boolean isPeak(int i, int j) {
            int own = keptScore(i, j);
            for (int row = j - 2; row <= j + 2; row++) {
                for (int column = i - 2; column <= i + 2; column++) {
                    int other = keptScore(column, row);
                    boolean ahead = row < j || (row == j && column < i);
                    if (other > own || (ahead && other == own)) {
                        return false;
                    }
                }
            }
            return true;
        }

        int signOf(int i, int j) {
            int sign = 0;
            for (int k = 0; k < SIGN_BITS; k++) {
                int one = get(i + k % 5 - 2, j + k % 3 - 1);
                int other = get(i + 2 - k % 4, j + k % 5 - 2);
                if (one < other) {
                    sign |= 1 << k;
                }
            }
            return sign;
        }
    }

    /** The marks of one picture, by their numbers. */
    private static final class Marks {
        final int[] columns = new int[MOST_MARKS];
        final int[] rows = new int[MOST_MARKS];
        final int[] heights = new int[MOST_MARKS];
        final int[] signs = new int[MOST_MARKS];
        int count;

        void find(Dots dots, int bar) {
            count = 0;
            for (int j = 0; j < dots.height; j++) {
                for (int i = 0; i < dots.width; i++) {
                    int height = dots.keptScore(i, j);
                    if (height >= bar && dots.isPeak(i, j)) {
                        insert(i, j, height);
                    }
                }
            }
            for (int m = 0; m < count; m++) {
                signs[m] = dots.signOf(columns[m], rows[m]);
            }
        }

        /** Marks come by rows, then columns: one goes behind all that are as high, and off the end if none is lower. */
        private void insert(int i, int j, int height) {
            int slot = count;
            while (slot > 0 && heights[slot - 1] < height) {
                slot--;
            }
            if (slot >= MOST_MARKS) {
                return;
            }
            count = Math.min(count + 1, MOST_MARKS);
            for (int m = count - 1; m > slot; m--) {
                columns[m] = columns[m - 1];
                rows[m] = rows[m - 1];
                heights[m] = heights[m - 1];
            }
            columns[slot] = i;
            rows[slot] = j;
            heights[slot] = height;
        }

        /** The mark whose sign is least distant from this one, the first of several; NONE without marks. */
        int nearestTo(int sign) {
            int nearest = NONE;
            int least = SIGN_BITS + 1;
            for (int m = 0; m < count; m++) {
                int distance = Integer.bitCount(signs[m] ^ sign);
                if (distance < least) {
                    least = distance;
                    nearest = m;
                }
            }
            return nearest;
        }
    }

    /** What the marks of one picture are to those of another: matches and the shift they vote for. */
    private static final class Pairing {
        final int[] partners = new int[MOST_MARKS];
        int matches;
        int votes;
        int x;
        int y;

        void find(Marks a, Marks b, int near) {
            matches = 0;
            for (int m = 0; m < a.count; m++) {
                partners[m] = partnerOf(a, m, b, near);
                if (partners[m] != NONE) {
                    matches++;
                }
            }
            votes = 0;
            for (int m = 0; m < a.count; m++) {
                if (partners[m] != NONE) {
                    propose(a, b, shiftX(a, m, b), shiftY(a, m, b));
                }
            }
        }

        private static int partnerOf(Marks a, int m, Marks b, int near) {
            int n = b.nearestTo(a.signs[m]);
            if (n == NONE || a.nearestTo(b.signs[n]) != m) {
                return NONE;
            }
            return Integer.bitCount(a.signs[m] ^ b.signs[n]) <= near ? n : NONE;
        }

        private int shiftX(Marks a, int m, Marks b) {
            return a.columns[m] - b.columns[partners[m]];
        }

        private int shiftY(Marks a, int m, Marks b) {
            return a.rows[m] - b.rows[partners[m]];
        }

        /** Two votes at least make a shift; of several with the most it is the one with the least x, then y. */
        private void propose(Marks a, Marks b, int newX, int newY) {
            int newVotes = 0;
            for (int m = 0; m < a.count; m++) {
                if (partners[m] != NONE && shiftX(a, m, b) == newX && shiftY(a, m, b) == newY) {
                    newVotes++;
                }
            }
            boolean ahead = newX < x || (newX == x && newY < y);
            if (newVotes >= 2 && (newVotes > votes || (newVotes == votes && ahead))) {
                votes = newVotes;
                x = newX;
                y = newY;
            }
        }
    }

    /** A picture with its marks and, where it is joined, its place. */
    private static final class Picture {
        final Dots dots = new Dots();
        final Marks marks = new Marks();
        int x;
        int y;
        int joiner;
        int rank = NONE;

        boolean isJoined() {
            return rank != NONE;
        }

        /** The dot at a place of the whole; lost where the picture does not cover it. */
        int dotAt(int placeX, int placeY) {
            return dots.get(placeX - x, placeY - y);
        }

        /** Least x, least y, greatest x, greatest y that it covers, as extent numbers them. */
        int edge(int what) {
            switch (what) {
                case 0: return x;
                case 1: return y;
                case 2: return x + dots.width - 1;
                default: return y + dots.height - 1;
            }
        }
    }

    /** All pictures, what they are to each other, and which are joined, in their order. */
    private static final class Album {
        final Picture[] pictures = new Picture[MOST_PICTURES];
        final Pairing[] pairings = new Pairing[MOST_PICTURES * MOST_PICTURES];
        final int[] order = new int[MOST_PICTURES];
        int count;
        int joinedCount;
        boolean stale;

        Album() {
            for (int p = 0; p < MOST_PICTURES; p++) {
                pictures[p] = new Picture();
            }
            for (int pair = 0; pair < MOST_PICTURES * MOST_PICTURES; pair++) {
                pairings[pair] = new Pairing();
            }
        }

        Pairing pairingOf(int a, int b) {
            return pairings[a * MOST_PICTURES + b];
        }

        /** Marks, matches and places follow from dots and rules: made anew only when one of these has changed. */
        void settle(int bar, int near) {
            if (!stale) {
                return;
            }
            for (int p = 0; p < count; p++) {
                pictures[p].dots.scoreAll();
                pictures[p].marks.find(pictures[p].dots, bar);
            }
            for (int a = 0; a < count; a++) {
                for (int b = 0; b < count; b++) {
                    if (a != b) {
                        pairingOf(a, b).find(pictures[a].marks, pictures[b].marks, near);
                    }
                }
            }
            joinAll();
            stale = false;
        }

        private void joinAll() {
            joinedCount = 0;
            for (int p = 0; p < count; p++) {
                pictures[p].rank = NONE;
            }
            if (count > 0) {
                put(0, 0, 0, NONE);
            }
            for (int step = 1; step < count; step++) {
                int pair = bestPair();
                if (pair == NONE) {
                    return;
                }
                int a = pair / MOST_PICTURES;
                put(pair % MOST_PICTURES, pictures[a].x + pairings[pair].x, pictures[a].y + pairings[pair].y, a);
            }
        }

        private void put(int picture, int x, int y, int joiner) {
            Picture next = pictures[picture];
            next.x = x;
            next.y = y;
            next.joiner = joiner;
            next.rank = joinedCount;
            order[joinedCount] = picture;
            joinedCount++;
        }

        private int bestPair() {
            int best = NONE;
            int most = 0;
            for (int a = 0; a < count; a++) {
                for (int b = 0; b < count; b++) {
                    boolean fits = pictures[a].isJoined() && !pictures[b].isJoined();
                    if (fits && pairingOf(a, b).votes > most) {
                        most = pairingOf(a, b).votes;
                        best = a * MOST_PICTURES + b;
                    }
                }
            }
            return best;
        }

        int countOpen() {
            int open = 0;
            for (int a = 0; a < count; a++) {
                for (int b = a + 1; b < count; b++) {
                    if (isOpen(a, b)) {
                        open++;
                    }
                }
            }
            return open;
        }

        private boolean isOpen(int a, int b) {
            Picture first = pictures[a];
            Picture second = pictures[b];
            Pairing pairing = pairingOf(a, b);
            if (!first.isJoined() || !second.isJoined() || pairing.votes == 0) {
                return false;
            }
            if (first.joiner == b || second.joiner == a) {
                return false;
            }
            return second.x != first.x + pairing.x || second.y != first.y + pairing.y;
        }

        /** The picture that tells the dot at a place of the whole, or NONE. */
        int firstAt(int x, int y) {
            for (int k = 0; k < joinedCount; k++) {
                if (pictures[order[k]].dotAt(x, y) != LOST_DOT) {
                    return order[k];
                }
            }
            return NONE;
        }

        /** Picture 0 is always joined, where there is one. */
        int edge(int what) {
            int farthest = pictures[0].edge(what);
            for (int k = 1; k < joinedCount; k++) {
                int next = pictures[order[k]].edge(what);
                farthest = what < 2 ? Math.min(farthest, next) : Math.max(farthest, next);
            }
            return farthest;
        }

        /** Each place is counted once: at the picture that tells its dot. */
        int countPlaces() {
            int places = 0;
            for (int k = 0; k < joinedCount; k++) {
                Picture next = pictures[order[k]];
                for (int j = 0; j < next.dots.height; j++) {
                    for (int i = 0; i < next.dots.width; i++) {
                        if (firstAt(next.x + i, next.y + j) == order[k]) {
                            places++;
                        }
                    }
                }
            }
            return places;
        }
    }

    /** The rectangle that two joined pictures cover both, and their lights there. */
    private static final class Overlap {
        int x;
        int y;
        int width;
        int height;
        int firstLight;
        int secondLight;
        int bothTold;

        void find(Picture a, Picture b) {
            x = Math.max(a.edge(0), b.edge(0));
            y = Math.max(a.edge(1), b.edge(1));
            width = Math.min(a.edge(2), b.edge(2)) - x + 1;
            height = Math.min(a.edge(3), b.edge(3)) - y + 1;
            if (!isThere()) {
                x = 0;
                y = 0;
                width = 0;
                height = 0;
            }
        }

        boolean isThere() {
            return width > 0 && height > 0;
        }

        void compare(Picture a, Picture b) {
            firstLight = 0;
            secondLight = 0;
            bothTold = 0;
            for (int placeY = y; placeY < y + height; placeY++) {
                for (int placeX = x; placeX < x + width; placeX++) {
                    int first = a.dotAt(placeX, placeY);
                    int second = b.dotAt(placeX, placeY);
                    if (first != LOST_DOT && second != LOST_DOT) {
                        firstLight += first;
                        secondLight += second;
                        bothTold++;
                    }
                }
            }
        }
    }

    /** The cheapest way down through an overlap. */
    private static final class Seam {
        /** What the cheapest way costs from a column of a row on, down to the last row. */
        final int[] costs = new int[MOST_DOTS];
        final int[] columns = new int[MOST_SIDE];
        int cost;

        /** Costs are summed from below, so that the leftmost choice can be made from above. */
        void find(Overlap common, Picture a, Picture b) {
            int width = common.width;
            int last = common.height - 1;
            for (int row = last; row >= 0; row--) {
                for (int column = 0; column < width; column++) {
                    int own = unlikeness(a, b, common.x + column, common.y + row);
                    int below = row == last ? 0 : costAt(row + 1, cheapest(row + 1, column - 1, column + 1, width));
                    costs[row * MOST_SIDE + column] = own + below;
                }
            }
            columns[0] = cheapest(0, 0, width - 1, width);
            cost = costAt(0, columns[0]);
            for (int row = 1; row <= last; row++) {
                columns[row] = cheapest(row, columns[row - 1] - 1, columns[row - 1] + 1, width);
            }
        }

        private static int unlikeness(Picture a, Picture b, int x, int y) {
            int first = a.dotAt(x, y);
            int second = b.dotAt(x, y);
            return first == LOST_DOT || second == LOST_DOT ? BRIGHTEST : Math.abs(first - second);
        }

        private int costAt(int row, int column) {
            return costs[row * MOST_SIDE + column];
        }

        /** The cheapest column of a row between two columns, the leftmost of several. */
        private int cheapest(int row, int from, int to, int width) {
            int best = Math.max(from, 0);
            for (int column = best + 1; column <= to && column < width; column++) {
                if (costAt(row, column) < costAt(row, best)) {
                    best = column;
                }
            }
            return best;
        }
    }
}
