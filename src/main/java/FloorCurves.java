import java.util.Arrays;

/** Curves counted by floors, by tangency rows and by splits, as the document FloorCurves tells it. */
public final class FloorCurves {
    public static final int BAD = -1, STATE = -2, FULL = -3, NONE = -4;

    private static final int NO_OUT = -1000, FAULTY = -10, NO_STAIR = -20;
    private static final int NULL = 1, INDEX = 2, CAST = 3, SIZE = 4;
    private static final int PICTURES = 8, SHEETS = 4;
    private static final int MOST_DEGREE = 4, MOST_STAIRS = 6, MOST_WEIGHT = 4, MOST_KNOTS = 6;
    private static final int MOST_FIGURES = 5, MOST_TANGENT_KNOTS = 10, MOST_RATIONAL = 7;

    // A SPOT is a kind of STAIR (from, to, WEIGHT); SPOTS are numbered in the order of STAIRS.
    private static final int[] PAIR_FROM = {0, 0, 0, 1, 1, 2};
    private static final int[] PAIR_TO = {1, 2, 3, 2, 3, 3};
    private static final int PAIRS = 6, SPOTS = PAIRS * MOST_WEIGHT;

    private final Picture[] pictures = new Picture[PICTURES];
    private final Picture draft = new Picture();
    private final Marker marker = new Marker();
    private final Powers powers = new Powers();
    private final Catalogue[] catalogues = new Catalogue[MOST_DEGREE + 1];
    private final Tape tape = new Tape();
    private final Tangents tangents = new Tangents();
    private final long[] rationals = new long[MOST_RATIONAL + 1];
    private final Sheet[] sheets = new Sheet[SHEETS];
    private int pictureCount;

    public FloorCurves() {
        for (int p = 0; p < PICTURES; p++) {
            pictures[p] = new Picture();
        }
        for (int k = 0; k < SHEETS; k++) {
            sheets[k] = new Sheet();
        }
    }

    // ---- pictures

    public int picture(int d) {
        if (!isDegree(d)) {
            return BAD;
        }
        draft.clear(d);
        return keepDraft();
    }

    public int stair(int p, int i, int j, int w) {
        Picture shown = pictureAt(p);
        if (shown == null) {
            return BAD;
        }
        int spot = shown.spotOf(i, j, w);
        if (spot < 0) {
            return BAD;
        }
        if (shown.stairCount() >= MOST_STAIRS) {
            return FULL;
        }
        shown.add(spot);
        return shown.stairCount();
    }

    public int cut(int p, int i, int j, int w) {
        Picture shown = pictureAt(p);
        if (shown == null) {
            return BAD;
        }
        int spot = shown.spotOf(i, j, w);
        if (spot < 0) {
            return BAD;
        }
        if (shown.amountAt(spot) == 0) {
            return STATE;
        }
        shown.remove(spot);
        return shown.stairCount();
    }

    public int drop() {
        if (pictureCount <= 0) {
            return NONE;
        }
        pictureCount--;
        return pictureCount;
    }

    public int about(int p, int what) {
        Picture shown = pictureAt(p);
        if (shown == null) {
            return BAD;
        }
        switch (what) {
            case 0: return shown.degree();
            case 1: return shown.stairCount();
            case 2: return shown.isRight() ? 1 : 0;
            case 3: return shown.knots();
            case 4: return shown.parts();
            case 5: return shown.mult();
            case 6: return shown.sign();
            default: return BAD;
        }
    }

    public int told(int p, int s, int what) {
        Picture shown = pictureAt(p);
        if (shown == null) {
            return BAD;
        }
        int spot = shown.spotOfStair(s);
        if (spot < 0) {
            return BAD;
        }
        switch (what) {
            case 0: return fromOf(spot);
            case 1: return toOf(spot);
            case 2: return weightOf(spot);
            default: return BAD;
        }
    }

    public int out(int p, int floor) {
        Picture shown = pictureAt(p);
        if (shown == null || !shown.hasFloor(floor)) {
            return NO_OUT;
        }
        return shown.outOf(floor);
    }

    public long spread(int p, int k) {
        Picture shown = pictureAt(p);
        if (shown == null) {
            return BAD;
        }
        powers.expand(shown);
        return powers.at(k);
    }

    public long markings(int p) {
        Picture shown = pictureAt(p);
        if (shown == null) {
            return BAD;
        }
        if (!shown.isRight()) {
            return STATE;
        }
        return marker.ways(shown, Marker.ANY_GAP, 0);
    }

    public long between(int p, int f, int n) {
        Picture shown = pictureAt(p);
        if (shown == null || !shown.hasFloor(f) || n < 0) {
            return BAD;
        }
        if (!shown.isRight()) {
            return STATE;
        }
        return marker.ways(shown, f, n);
    }

    public int unlike(int p, int q) {
        Picture one = pictureAt(p);
        Picture other = pictureAt(q);
        if (one == null || other == null) {
            return BAD;
        }
        if (one.degree() != other.degree()) {
            return Math.min(one.degree(), other.degree());
        }
        for (int spot = 0; spot < SPOTS; spot++) {
            if (one.amountAt(spot) != other.amountAt(spot)) {
                return fromOf(spot);
            }
        }
        return NONE;
    }

    public int turned(int p) {
        Picture shown = pictureAt(p);
        if (shown == null) {
            return BAD;
        }
        return shown.isRightTurned() ? 1 : 0;
    }

    // ---- all of a degree

    public long count(int d, int n) {
        Catalogue found = catalogueOf(d, n);
        return found == null ? BAD : found.counted(n);
    }

    public long signed(int d, int n) {
        Catalogue found = catalogueOf(d, n);
        return found == null ? BAD : found.countedBySign(n);
    }

    public long spreadAll(int d, int n, int k) {
        Catalogue found = catalogueOf(d, n);
        return found == null ? BAD : found.countedByPower(n, k);
    }

    public int listed(int d, int n) {
        Catalogue found = catalogueOf(d, n);
        return found == null ? BAD : found.howMany(n);
    }

    public int take(int d, int n, int i) {
        Catalogue found = catalogueOf(d, n);
        if (found == null || i < 0) {
            return BAD;
        }
        if (i >= found.howMany(n)) {
            return NONE;
        }
        draft.unpack(d, found.rowAt(n, i));
        return keepDraft();
    }

    public int place(int p) {
        Picture shown = pictureAt(p);
        if (shown == null) {
            return BAD;
        }
        if (!shown.isRight()) {
            return STATE;
        }
        Catalogue found = catalogueOf(shown.degree(), shown.knots());
        return found == null ? STATE : found.howManyBefore(shown.knots(), shown.pack());
    }

    // ---- tangents

    public int feed(long v) {
        return tape.appendEight(v) ? tape.length() : FULL;
    }

    public int end(int n) {
        int had = tape.length();
        return tape.keepFirst(n) ? had : BAD;
    }

    public int text() {
        int faultPlace = tape.read();
        tape.keepFirst(0);
        return faultPlace < 0 ? Rows.degreeOf(tape.toldRows()) : FAULTY - faultPlace;
    }

    public int fault() {
        return tape.latestFault();
    }

    public long tangent(int n) {
        if (n < 0 || n > MOST_TANGENT_KNOTS) {
            return BAD;
        }
        if (tape.toldRows() == Rows.EMPTY) {
            return STATE;
        }
        return tangents.valueOf(tape.toldRows(), n);
    }

    public int has(int letter, int k) {
        if (letter < 0 || letter > 1 || k < 1 || k > MOST_FIGURES) {
            return BAD;
        }
        if (tape.toldRows() == Rows.EMPTY) {
            return STATE;
        }
        return Rows.amount(tape.toldRows(), letter, k);
    }

    public long rational(int d) {
        if (d < 1 || d > MOST_RATIONAL) {
            return BAD;
        }
        rationals[1] = 1;
        for (int degree = 2; degree <= d; degree++) {
            long sum = 0;
            for (int a = 1; a < degree; a++) {
                sum += rationals[a] * rationals[degree - a] * splitsOf(a, degree - a);
            }
            rationals[degree] = sum;
        }
        return rationals[d];
    }

    // ---- sheets

    public int sheet(int k, int lane, int n) {
        Sheet found = sheetAt(k);
        if (found == null || !Sheet.isLane(lane) || n > Sheet.MOST_CELLS) {
            return BAD;
        }
        if (n < 0) {
            return FAULTY - SIZE;
        }
        found.renew(lane, n);
        return 1;
    }

    public int lay(int k, int i, int v) {
        Sheet found = sheetAt(k);
        if (found == null) {
            return BAD;
        }
        if (found.isNothing()) {
            return FAULTY - NULL;
        }
        if (!found.hasCell(i)) {
            return FAULTY - INDEX;
        }
        found.write(i, v);
        return 1;
    }

    public int draw(int k, int lane, int f, int d, int n) {
        Sheet found = sheetAt(k);
        if (found == null || !Sheet.isLane(lane) || n < 0 || n > MOST_STAIRS || !isDegree(d)) {
            return BAD;
        }
        if (found.isNothing()) {
            return FAULTY - NULL;
        }
        if (!found.isOfLane(lane)) {
            return FAULTY - CAST;
        }
        draft.clear(d);
        int cell = f;
        for (int s = 0; s < n; s++) {
            if (!found.hasThreeFrom(cell)) {
                return FAULTY - INDEX;
            }
            int spot = draft.spotOf(found.read(cell), found.read(cell + 1), found.read(cell + 2));
            if (spot < 0) {
                return NO_STAIR - s;
            }
            draft.add(spot);
            cell += 3;
        }
        return keepDraft();
    }

    public int many(int what) {
        switch (what) {
            case 0: return pictureCount;
            case 1: return cellsOfFirstSheet();
            case 2: return tape.length();
            case 3: return stairsOfAll();
            default: return BAD;
        }
    }

    // ---- helpers

    private static boolean isDegree(int d) {
        return d >= 1 && d <= MOST_DEGREE;
    }

    private Picture pictureAt(int p) {
        return p >= 0 && p < pictureCount && p < PICTURES ? pictures[p] : null;
    }

    private Sheet sheetAt(int k) {
        return k >= 0 && k < SHEETS ? sheets[k] : null;
    }

    private int keepDraft() {
        Picture free = pictureCount >= 0 && pictureCount < PICTURES ? pictures[pictureCount] : null;
        if (free == null) {
            return FULL;
        }
        free.copyOf(draft);
        pictureCount++;
        return pictureCount - 1;
    }

    /** The list of a DEGREE is made when it is first asked for: most runs need few of them. */
    private Catalogue catalogueOf(int d, int n) {
        if (!isDegree(d) || n < 0 || n > MOST_KNOTS) {
            return null;
        }
        if (catalogues[d] == null) {
            catalogues[d] = new Catalogue(d);
        }
        return catalogues[d];
    }

    private int cellsOfFirstSheet() {
        Sheet first = sheetAt(0);
        return first == null || first.isNothing() ? NONE : first.length();
    }

    private int stairsOfAll() {
        int sum = 0;
        for (int p = 0; p < pictureCount; p++) {
            Picture shown = pictureAt(p);
            sum += shown == null ? 0 : shown.stairCount();
        }
        return sum;
    }

    private static long splitsOf(int a, int b) {
        int points = 3 * (a + b) - 4;
        long ways = b * choose(points, 3 * a - 2) - a * choose(points, 3 * a - 1);
        return ways * a * a * b;
    }

    private static long choose(int n, int k) {
        if (k < 0 || k > n) {
            return 0;
        }
        long ways = 1;
        for (int i = 1; i <= k; i++) {
            ways = ways * (n - k + i) / i;
        }
        return ways;
    }

    private static int fromOf(int spot) {
        return spot >= 0 && spot < SPOTS ? PAIR_FROM[spot / MOST_WEIGHT] : 0;
    }

    private static int toOf(int spot) {
        return spot >= 0 && spot < SPOTS ? PAIR_TO[spot / MOST_WEIGHT] : 0;
    }

    private static int weightOf(int spot) {
        return spot >= 0 && spot < SPOTS ? spot % MOST_WEIGHT + 1 : 1;
    }

    /** FLOORS and STAIRS, held as how many STAIRS there are at each SPOT: so they are always in order. */
    private static final class Picture {
        private static final int BITS = 2;
        private static final long MASK = 3;

        private int floors = 1;
        private int stairs;
        private final int[] amounts = new int[SPOTS];
        private final int[] outs = new int[MOST_DEGREE];

        void clear(int d) {
            floors = isDegree(d) ? d : 1;
            stairs = 0;
            Arrays.fill(amounts, 0);
            Arrays.fill(outs, 0);
        }

        void copyOf(Picture other) {
            if (other == null) {
                return;
            }
            floors = other.floors;
            stairs = other.stairs;
            System.arraycopy(other.amounts, 0, amounts, 0, SPOTS);
            System.arraycopy(other.outs, 0, outs, 0, MOST_DEGREE);
        }

        int degree() {
            return floors;
        }

        int stairCount() {
            return stairs;
        }

        boolean hasFloor(int floor) {
            return floor >= 0 && floor < floors;
        }

        int spotOf(int i, int j, int w) {
            if (w < 1 || w > MOST_WEIGHT || !hasFloor(j)) {
                return -1;
            }
            for (int pair = 0; pair < PAIRS; pair++) {
                if (PAIR_FROM[pair] == i && PAIR_TO[pair] == j) {
                    return pair * MOST_WEIGHT + w - 1;
                }
            }
            return -1;
        }

        int spotOfStair(int s) {
            if (s < 0 || s >= stairs) {
                return -1;
            }
            int passed = 0;
            for (int spot = 0; spot < SPOTS; spot++) {
                passed += amounts[spot];
                if (passed > s) {
                    return spot;
                }
            }
            return -1;
        }

        int amountAt(int spot) {
            return spot >= 0 && spot < SPOTS ? amounts[spot] : 0;
        }

        void add(int spot) {
            change(spot, 1);
        }

        void remove(int spot) {
            change(spot, -1);
        }

        private void change(int spot, int by) {
            if (spot < 0 || spot >= SPOTS) {
                return;
            }
            amounts[spot] += by;
            stairs += by;
            outs[fromOf(spot)] += by * weightOf(spot);
            outs[toOf(spot)] -= by * weightOf(spot);
        }

        int outOf(int floor) {
            return hasFloor(floor) && floor < MOST_DEGREE ? outs[floor] : 0;
        }

        boolean isRight() {
            for (int floor = 0; floor < floors; floor++) {
                if (outOf(floor) > 1) {
                    return false;
                }
            }
            return true;
        }

        /** Turned over, STAIRS from a FLOOR are STAIRS to it: its OUT only changes its sign. */
        boolean isRightTurned() {
            for (int floor = 0; floor < floors; floor++) {
                if (outOf(floor) < -1) {
                    return false;
                }
            }
            return true;
        }

        int knots() {
            return floors * (floors - 1) / 2 - stairs;
        }

        int parts() {
            int parts = 0;
            int seen = 0;
            for (int floor = 0; floor < floors; floor++) {
                if ((seen >> floor & 1) == 0) {
                    seen |= hangingTogetherWith(floor);
                    parts++;
                }
            }
            return parts;
        }

        private int hangingTogetherWith(int floor) {
            int group = 1 << floor;
            // Each round adds a FLOOR at least, or the group is whole.
            for (int round = 1; round < floors; round++) {
                for (int spot = 0; spot < SPOTS; spot++) {
                    int ends = 1 << fromOf(spot) | 1 << toOf(spot);
                    if (amounts[spot] > 0 && (group & ends) != 0) {
                        group |= ends;
                    }
                }
            }
            return group;
        }

        int mult() {
            int product = 1;
            for (int spot = 0; spot < SPOTS; spot++) {
                for (int s = 0; s < amounts[spot]; s++) {
                    product *= weightOf(spot) * weightOf(spot);
                }
            }
            return product;
        }

        int sign() {
            for (int spot = 0; spot < SPOTS; spot++) {
                if (amounts[spot] > 0 && weightOf(spot) % 2 == 0) {
                    return 0;
                }
            }
            return 1;
        }

        /** A RIGHT PICTURE has at most 3 like STAIRS; the first SPOT is highest, so packed rows are in LISTED order. */
        long pack() {
            long row = 0;
            for (int spot = 0; spot < SPOTS; spot++) {
                row = row << BITS | amounts[spot] & MASK;
            }
            return row;
        }

        void unpack(int d, long row) {
            clear(d);
            for (int spot = 0; spot < SPOTS; spot++) {
                int like = (int) (row >> BITS * (SPOTS - 1 - spot) & MASK);
                for (int s = 0; s < like; s++) {
                    add(spot);
                }
            }
        }
    }

    /** Counts MARKINGS: MARKS of each kind are dealt over the gaps behind FLOORS, mixed with those already there. */
    private static final class Marker {
        static final int ANY_GAP = -1;
        private static final int KINDS = MOST_STAIRS + MOST_DEGREE;

        private final int[] firstGap = new int[KINDS];
        private final int[] lastGap = new int[KINDS];
        private final int[] amount = new int[KINDS];
        private final int[] inGap = new int[MOST_DEGREE];
        private int kinds;
        private int watched;
        private int wanted;

        /** How many MARKINGS have so many MARKS in a gap; of ANY_GAP: how many there are. */
        long ways(Picture picture, int gap, int marks) {
            if (picture == null) {
                return 0;
            }
            Arrays.fill(inGap, 0);
            kinds = 0;
            watched = gap;
            wanted = marks;
            for (int spot = 0; spot < SPOTS; spot++) {
                addKind(fromOf(spot), toOf(spot) - 1, picture.amountAt(spot));
            }
            for (int floor = 0; floor < picture.degree(); floor++) {
                addKind(floor, picture.degree() - 1, 1 - picture.outOf(floor));
            }
            return dealNext(0);
        }

        private void addKind(int first, int last, int marks) {
            if (marks > 0 && kinds < KINDS) {
                firstGap[kinds] = first;
                lastGap[kinds] = last;
                amount[kinds] = marks;
                kinds++;
            }
        }

        private long deal(int kind, int gap, int left) {
            if (kind < 0 || kind >= kinds || kind >= KINDS || gap < 0 || gap >= MOST_DEGREE) {
                return 0;
            }
            long sum = 0;
            long mixes = 1;
            int before = inGap[gap];
            for (int here = 0; here <= left; here++) {
                if (here > 0) {
                    mixes = mixes * (before + here) / here;
                }
                inGap[gap] = before + here;
                if (here == left) {
                    sum += mixes * dealNext(kind + 1);
                } else if (gap < lastGap[kind]) {
                    sum += mixes * deal(kind, gap + 1, left - here);
                }
            }
            inGap[gap] = before;
            return sum;
        }

        private long dealNext(int kind) {
            if (kind >= 0 && kind < kinds && kind < KINDS) {
                return deal(kind, firstGap[kind], amount[kind]);
            }
            return watched < 0 || watched >= MOST_DEGREE || inGap[watched] == wanted ? 1 : 0;
        }
    }

    /** The product over all STAIRS of a PICTURE, by powers. */
    private static final class Powers {
        static final int HIGHEST = MOST_STAIRS * (MOST_WEIGHT - 1);
        static final int LENGTH = 2 * HIGHEST + 1;

        private final long[] row = new long[LENGTH];
        private final long[] product = new long[LENGTH];
        private int reach;

        void expand(Picture picture) {
            Arrays.fill(row, 0);
            row[HIGHEST] = 1;
            reach = 0;
            if (picture == null) {
                return;
            }
            for (int spot = 0; spot < SPOTS; spot++) {
                for (int s = 0; s < picture.amountAt(spot); s++) {
                    multiply(weightOf(spot));
                }
            }
        }

        private void multiply(int w) {
            int further = reach + w - 1;
            // WEIGHT 1 multiplies by 1.
            if (w <= 1 || further > HIGHEST) {
                return;
            }
            Arrays.fill(product, 0);
            for (int k = -reach; k <= reach; k++) {
                for (int e = 1 - w; e < w; e++) {
                    product[HIGHEST + k + e] += (w - Math.abs(e)) * row[HIGHEST + k];
                }
            }
            System.arraycopy(product, 0, row, 0, LENGTH);
            reach = further;
        }

        long at(int k) {
            return k >= -reach && k <= reach && reach <= HIGHEST ? row[HIGHEST + k] : 0;
        }
    }

    /** All RIGHT PICTURES of a DEGREE in LISTED order, with what they count together for each number of KNOTS. */
    private static final class Catalogue {
        // So many has DEGREE 4, all KNOTS together; lower DEGREES have fewer.
        private static final int MOST_ROWS = 61;

        private final int ofDegree;
        private final Picture draft = new Picture();
        private final Marker marker = new Marker();
        private final Powers powers = new Powers();
        private final long[] rows = new long[MOST_ROWS];
        private final int[] knotsOfRow = new int[MOST_ROWS];
        private final int[] amount = new int[MOST_KNOTS + 1];
        private final long[] byMult = new long[MOST_KNOTS + 1];
        private final long[] bySign = new long[MOST_KNOTS + 1];
        private final long[] byPower = new long[(MOST_KNOTS + 1) * Powers.LENGTH];
        private int size;

        Catalogue(int d) {
            ofDegree = d;
            draft.clear(d);
            fillFrom(0);
        }

        /** STAIRS to a FLOOR stand at SPOTS ahead of those from it: so what it may still give out is known here. */
        private void fillFrom(int spot) {
            if (spot >= SPOTS) {
                enter();
                return;
            }
            fillFrom(spot + 1);
            if (toOf(spot) >= ofDegree) {
                return;
            }
            int most = (1 - draft.outOf(fromOf(spot))) / weightOf(spot);
            for (int s = 0; s < most; s++) {
                draft.add(spot);
                fillFrom(spot + 1);
            }
            for (int s = 0; s < most; s++) {
                draft.remove(spot);
            }
        }

        private void enter() {
            int n = draft.knots();
            if (!isKnots(n) || size >= MOST_ROWS) {
                return;
            }
            rows[size] = draft.pack();
            knotsOfRow[size] = n;
            size++;
            amount[n]++;
            long ways = marker.ways(draft, Marker.ANY_GAP, 0);
            byMult[n] += draft.mult() * ways;
            bySign[n] += draft.sign() * ways;
            powers.expand(draft);
            for (int k = -Powers.HIGHEST; k <= Powers.HIGHEST; k++) {
                byPower[n * Powers.LENGTH + Powers.HIGHEST + k] += powers.at(k) * ways;
            }
        }

        private static boolean isKnots(int n) {
            return n >= 0 && n <= MOST_KNOTS;
        }

        int howMany(int n) {
            return isKnots(n) ? amount[n] : 0;
        }

        long counted(int n) {
            return isKnots(n) ? byMult[n] : 0;
        }

        long countedBySign(int n) {
            return isKnots(n) ? bySign[n] : 0;
        }

        long countedByPower(int n, int k) {
            if (!isKnots(n) || k < -Powers.HIGHEST || k > Powers.HIGHEST) {
                return 0;
            }
            return byPower[n * Powers.LENGTH + Powers.HIGHEST + k];
        }

        long rowAt(int n, int i) {
            int passed = 0;
            for (int r = 0; r < size && r < MOST_ROWS; r++) {
                if (knotsOfRow[r] == n) {
                    if (passed == i) {
                        return rows[r];
                    }
                    passed++;
                }
            }
            return 0;
        }

        int howManyBefore(int n, long row) {
            int before = 0;
            for (int r = 0; r < size && r < MOST_ROWS; r++) {
                if (knotsOfRow[r] == n && rows[r] < row) {
                    before++;
                }
            }
            return before;
        }
    }

    /** Both rows A and B in one number, three bits for each of A(1) to A(5), B(1) to B(5): no amount is above 5. */
    private static final class Rows {
        static final int EMPTY = 0;
        static final int FIELDS = 2 * MOST_FIGURES;
        private static final int BITS = 3, MASK = 7;

        private Rows() {
        }

        static int one(int letter, int k) {
            return 1 << BITS * (letter * MOST_FIGURES + k - 1);
        }

        static int oneOfField(int field) {
            return one(field / MOST_FIGURES, figureOfField(field));
        }

        static int figureOfField(int field) {
            return field % MOST_FIGURES + 1;
        }

        static int amount(int rows, int letter, int k) {
            return rows >> BITS * (letter * MOST_FIGURES + k - 1) & MASK;
        }

        static int degreeOf(int rows) {
            int sum = 0;
            for (int k = 1; k <= MOST_FIGURES; k++) {
                sum += k * (amount(rows, 0, k) + amount(rows, 1, k));
            }
            return sum;
        }

        /** How many more B the part has than the whole. */
        static int moreB(int whole, int part) {
            int more = 0;
            for (int k = 1; k <= MOST_FIGURES; k++) {
                more += amount(part, 1, k) - amount(whole, 1, k);
            }
            return more;
        }

        /** What a part of one DEGREE less is multiplied with; 0, if it is no part. */
        static long timesOfPart(int whole, int part) {
            long times = 1;
            for (int k = 1; k <= MOST_FIGURES && times > 0; k++) {
                int more = amount(part, 1, k) - amount(whole, 1, k);
                times *= choose(amount(whole, 0, k), amount(part, 0, k));
                times *= choose(amount(part, 1, k), amount(whole, 1, k));
                for (int m = 0; m < more; m++) {
                    times *= k;
                }
            }
            return times;
        }
    }

    /** TANGENT of all rows of a DEGREE for all KNOTS, worked out from the DEGREE below when first asked for. */
    private static final class Tangents {
        // So many pairs of rows A, B have the DEGREES 1 to 5 together.
        private static final int MOST_ROWS = 73;
        private static final int WIDTH = MOST_TANGENT_KNOTS + 1;

        private final int[] rows = new int[MOST_ROWS];
        private final long[] values = new long[MOST_ROWS * WIDTH];
        private final int[] firstRow = new int[MOST_FIGURES + 2];
        private int size;
        private int known;

        long valueOf(int asked, int n) {
            int d = Rows.degreeOf(asked);
            if (d < 1 || d > MOST_FIGURES || n < 0 || n >= WIDTH) {
                return 0;
            }
            for (int next = known + 1; next <= d; next++) {
                learn(next);
            }
            int r = indexOf(d, asked);
            return r < 0 ? 0 : values[r * WIDTH + n];
        }

        private void learn(int d) {
            if (d < 1 || d > MOST_FIGURES) {
                return;
            }
            firstRow[d] = size;
            enterRows(Rows.FIELDS - 1, d, Rows.EMPTY);
            firstRow[d + 1] = size;
            for (int r = firstRow[d]; r < size; r++) {
                if (d == 1) {
                    values[r * WIDTH] = 1;
                } else {
                    addMoves(d, r);
                    addSplits(d, r);
                }
            }
            known = d;
        }

        /** The highest field and the least amounts first: so rows rise, and moving one from B to A leads to an earlier row. */
        private void enterRows(int field, int left, int made) {
            if (field < 0) {
                if (left == 0 && size < MOST_ROWS) {
                    rows[size] = made;
                    size++;
                }
                return;
            }
            int k = Rows.figureOfField(field);
            for (int times = 0; times * k <= left; times++) {
                enterRows(field - 1, left - times * k, made + times * Rows.oneOfField(field));
            }
        }

        private int indexOf(int d, int asked) {
            if (d < 1 || d > MOST_FIGURES) {
                return -1;
            }
            for (int r = firstRow[d]; r < firstRow[d + 1] && r < MOST_ROWS; r++) {
                if (rows[r] == asked) {
                    return r;
                }
            }
            return -1;
        }

        private void addMoves(int d, int r) {
            if (r < 0 || r >= MOST_ROWS) {
                return;
            }
            for (int k = 1; k <= MOST_FIGURES; k++) {
                if (Rows.amount(rows[r], 1, k) > 0) {
                    addTo(r, indexOf(d, rows[r] + Rows.one(0, k) - Rows.one(1, k)), k, 0);
                }
            }
        }

        private void addSplits(int d, int r) {
            if (d < 2 || d > MOST_FIGURES || r < 0 || r >= MOST_ROWS) {
                return;
            }
            for (int part = firstRow[d - 1]; part < firstRow[d] && part < MOST_ROWS; part++) {
                long times = Rows.timesOfPart(rows[r], rows[part]);
                if (times > 0) {
                    addTo(r, part, times, d - 1 - Rows.moreB(rows[r], rows[part]));
                }
            }
        }

        private void addTo(int r, int other, long times, int fewerKnots) {
            if (r < 0 || r >= MOST_ROWS || other < 0 || other >= MOST_ROWS || fewerKnots < 0) {
                return;
            }
            for (int n = fewerKnots; n < WIDTH; n++) {
                values[r * WIDTH + n] += times * values[other * WIDTH + n - fewerKnots];
            }
        }
    }

    /** THE TAPE, and what its latest text without FAULT told. */
    private static final class Tape {
        private static final int MOST_BYTES = 80;
        private static final int NO_TOKEN = 1, OUT_OF_PLACE = 2, TOO_MUCH = 3;
        private static final int NO_LETTER = -1;

        private final byte[] bytes = new byte[MOST_BYTES];
        private int length;
        private int toldRows = Rows.EMPTY;
        private int latestFault;

        int length() {
            return length;
        }

        int toldRows() {
            return toldRows;
        }

        int latestFault() {
            return latestFault;
        }

        boolean appendEight(long v) {
            if (length < 0 || length > MOST_BYTES - 8) {
                return false;
            }
            for (int i = 0; i < 8; i++) {
                bytes[length + i] = (byte) (v >> 8 * (7 - i));
            }
            length += 8;
            return true;
        }

        boolean keepFirst(int n) {
            if (n < 0 || n > length) {
                return false;
            }
            length = n;
            return true;
        }

        /** The place of the FAULT; -1: there is none, and the rows are told. */
        int read() {
            int rows = Rows.EMPTY;
            int sum = 0;
            int letter = NO_LETTER;
            for (int place = 0; place < length && place < MOST_BYTES; place++) {
                int token = bytes[place];
                if (token == ' ') {
                    continue;
                }
                boolean isFigure = token >= '1' && token <= '9';
                if (!isFigure && token != 'a' && token != 'b') {
                    return failAt(place, NO_TOKEN);
                }
                if (isFigure == (letter == NO_LETTER)) {
                    return failAt(place, OUT_OF_PLACE);
                }
                if (!isFigure) {
                    letter = token - 'a';
                    continue;
                }
                sum += token - '0';
                if (sum > MOST_FIGURES) {
                    return failAt(place, TOO_MUCH);
                }
                rows += Rows.one(letter, token - '0');
                letter = NO_LETTER;
            }
            if (sum == 0 || letter != NO_LETTER) {
                return failAt(length, OUT_OF_PLACE);
            }
            toldRows = rows;
            latestFault = 0;
            return -1;
        }

        private int failAt(int place, int kind) {
            latestFault = kind;
            return place;
        }
    }

    /** A row of CELLS of a lane, or nothing; its cells are made once and used again. */
    private static final class Sheet {
        static final int MOST_CELLS = 60;
        private static final int BYTES = 0, SHORTS = 1, INTS = 2, NOTHING = -1;

        private final int[] cells = new int[MOST_CELLS];
        private int lane = NOTHING;
        private int length;

        static boolean isLane(int asked) {
            return asked >= BYTES && asked <= INTS;
        }

        void renew(int newLane, int cellCount) {
            if (!isLane(newLane) || cellCount < 0 || cellCount > MOST_CELLS) {
                return;
            }
            lane = newLane;
            length = cellCount;
            Arrays.fill(cells, 0);
        }

        boolean isNothing() {
            return lane == NOTHING;
        }

        boolean isOfLane(int asked) {
            return lane == asked;
        }

        int length() {
            return length;
        }

        boolean hasCell(int i) {
            return i >= 0 && i < length && i < MOST_CELLS;
        }

        boolean hasThreeFrom(int i) {
            return i >= 0 && i <= length - 3;
        }

        int read(int i) {
            return hasCell(i) ? cells[i] : 0;
        }

        void write(int i, int v) {
            if (hasCell(i)) {
                cells[i] = lane == BYTES ? (byte) v : lane == SHORTS ? (short) v : v;
            }
        }
    }
}
