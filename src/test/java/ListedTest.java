import java.util.List;

/** Promises 14 to 19: all PICTURES of a DEGREE. */
public final class ListedTest {
    private static final int LOW = Integer.MIN_VALUE, HIGH = Integer.MAX_VALUE;
    private static final Due DUE = new Due("ListedTest");

    public static void main(String[] args) {
        for (int d = 1; d <= 4; d++) {
            for (int n = 0; n <= 6; n++) {
                numbers(d, n);
                pictures(d, n);
            }
        }
        wrongNumbers();
        takeRefuses();
        placeRefuses();
        DUE.close();
    }

    private static void numbers(int d, int n) {
        FloorCurves x = new FloorCurves();
        Model m = new Model();
        String of = " " + d + " " + n;
        DUE.is("14: count" + of, x.count(d, n), m.count(d, n));
        DUE.is("15: signed" + of, x.signed(d, n), m.signed(d, n));
        DUE.is("17: listed" + of, x.listed(d, n), m.listed(d, n));
        long sum = 0;
        for (int k = -19; k <= 19; k++) {
            DUE.is("16: spreadAll" + of + " " + k, x.spreadAll(d, n, k), m.spreadAll(d, n, k));
            sum += x.spreadAll(d, n, k);
        }
        DUE.is("16: the sum is COUNT" + of, sum, x.count(d, n));
        DUE.is("16: a low power" + of, x.spreadAll(d, n, LOW), 0);
        DUE.is("16: a high power" + of, x.spreadAll(d, n, HIGH), 0);
    }

    private static void pictures(int d, int n) {
        FloorCurves x = new FloorCurves();
        List<Model.Pic> all = Model.listOf(d, n);
        for (int i = 0; i < all.size(); i++) {
            String of = " " + d + " " + n + " " + i;
            DUE.is("18: take" + of, x.take(d, n, i), 0);
            DUE.is("18: its DEGREE" + of, x.about(0, 0), d);
            DUE.is("18: it is RIGHT" + of, x.about(0, 2), 1);
            DUE.is("18: its KNOTS" + of, x.about(0, 3), n);
            for (int s = 0; s < all.get(i).stairs.size(); s++) {
                for (int what = 0; what < 3; what++) {
                    DUE.is("18: a STAIR" + of, x.told(0, s, what), all.get(i).stairs.get(s)[what]);
                }
            }
            DUE.is("19: place" + of, x.place(0), i);
            x.drop();
        }
        DUE.is("18: behind the last", x.take(d, n, all.size()), FloorCurves.NONE);
    }

    private static void wrongNumbers() {
        FloorCurves x = new FloorCurves();
        int[][] wrong = {{0, 0}, {5, 0}, {LOW, 0}, {HIGH, 0}, {1, -1}, {4, 7}, {2, LOW}, {3, HIGH}};
        for (int[] w : wrong) {
            DUE.is("14: count", x.count(w[0], w[1]), FloorCurves.BAD);
            DUE.is("15: signed", x.signed(w[0], w[1]), FloorCurves.BAD);
            DUE.is("16: spreadAll", x.spreadAll(w[0], w[1], 0), FloorCurves.BAD);
            DUE.is("17: listed", x.listed(w[0], w[1]), FloorCurves.BAD);
            DUE.is("18: take", x.take(w[0], w[1], 0), FloorCurves.BAD);
        }
    }

    private static void takeRefuses() {
        FloorCurves x = new FloorCurves();
        DUE.is("18: below 0", x.take(1, 0, -1), FloorCurves.BAD);
        DUE.is("18: below 0, and none such", x.take(1, 5, LOW), FloorCurves.BAD);
        DUE.is("18: none such", x.take(4, 3, HIGH), FloorCurves.NONE);
        for (int p = 0; p < 8; p++) {
            DUE.is("18: take", x.take(4, 3, p), p);
        }
        DUE.is("18: full", x.take(4, 3, 0), FloorCurves.FULL);
        DUE.is("18: NONE is told ahead of FULL", x.take(4, 3, 20), FloorCurves.NONE);
        DUE.is("18: BAD is told first", x.take(4, 3, -1), FloorCurves.BAD);
        DUE.is("18: nothing came", x.many(0), 8);
    }

    private static void placeRefuses() {
        FloorCurves x = new FloorCurves();
        DUE.is("19: no such PICTURE", x.place(0), FloorCurves.BAD);
        x.picture(3);
        DUE.is("19: without STAIRS", x.place(0), 0);
        x.stair(0, 0, 2, 1);
        DUE.is("19: of three", x.place(0), 1);
        x.stair(0, 1, 2, 2);
        DUE.is("19: not RIGHT", x.place(0), FloorCurves.STATE);
        DUE.is("19: no such PICTURE", x.place(-1), FloorCurves.BAD);
        DUE.is("19: no such PICTURE", x.place(1), FloorCurves.BAD);
    }
}
