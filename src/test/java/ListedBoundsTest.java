/** Boundary cases of promises 14 to 19 and of what Terms 1 says of COUNT and LISTED: a method for each sentence. */
public final class ListedBoundsTest {
    private static final int LOW = Made.LOW, HIGH = Made.HIGH;
    private static final int BAD = FloorCurves.BAD, STATE = FloorCurves.STATE, FULL = FloorCurves.FULL, NONE = FloorCurves.NONE;
    private static final int[] WRONG_DEGREES = {LOW, LOW + 1, -1, 0, 5, 257, 65540, (1 << 30) + 1, HIGH};
    private static final int[] WRONG_KNOTS = {LOW, LOW + 1, -1, 7, 256, 65542, 1 << 30, HIGH};
    // How many RIGHT PICTURES there are of DEGREE 1 to 4 with 0 to 6 KNOTS.
    private static final int[][] AMOUNTS = {{1, 0, 0, 0, 0, 0, 0}, {1, 1, 0, 0, 0, 0, 0}, {1, 3, 3, 1, 0, 0, 0}, {1, 5, 13, 20, 15, 6, 1}};
    private static final Due DUE = new Due("ListedBoundsTest");

    public static void main(String[] args) {
        countBad();
        signedBad();
        spreadAllBad();
        listedBad();
        takeBad();
        countAtBothEnds();
        countOfNoPictures();
        spreadAllEnds();
        listedAtBothEnds();
        listedOrder();
        takeFirstAndLast();
        takeNoneSuch();
        takeFull();
        takeFirstThatFits();
        takenIsAPictureOfItsOwn();
        placeFirstAndLast();
        placeOfNoKnots();
        placeBad();
        placeNotRight();
        DUE.close();
    }

    /** 14: "BAD: d not 1 to 4, n not 0 to 6." */
    private static void countBad() {
        FloorCurves x = new FloorCurves();
        for (int d : WRONG_DEGREES) {
            DUE.is("14: count " + d + " 0", x.count(d, 0), BAD);
            DUE.is("14: count " + d + " 6", x.count(d, 6), BAD);
        }
        for (int n : WRONG_KNOTS) {
            DUE.is("14: count 1 " + n, x.count(1, n), BAD);
            DUE.is("14: count 4 " + n, x.count(4, n), BAD);
        }
        DUE.is("14: both", x.count(5, 7), BAD);
    }

    /** 15: "BAD likewise." */
    private static void signedBad() {
        FloorCurves x = new FloorCurves();
        for (int d : WRONG_DEGREES) {
            DUE.is("15: signed " + d + " 0", x.signed(d, 0), BAD);
            DUE.is("15: signed " + d + " 6", x.signed(d, 6), BAD);
        }
        for (int n : WRONG_KNOTS) {
            DUE.is("15: signed 1 " + n, x.signed(1, n), BAD);
            DUE.is("15: signed 4 " + n, x.signed(4, n), BAD);
        }
    }

    /** 16: "BAD likewise.": d and n alone; k may be any. */
    private static void spreadAllBad() {
        FloorCurves x = new FloorCurves();
        for (int k : new int[] {LOW, 0, HIGH}) {
            for (int d : WRONG_DEGREES) {
                DUE.is("16: spreadAll " + d + " 0 " + k, x.spreadAll(d, 0, k), BAD);
            }
            for (int n : WRONG_KNOTS) {
                DUE.is("16: spreadAll 4 " + n + " " + k, x.spreadAll(4, n, k), BAD);
            }
        }
    }

    /** 17: "BAD likewise." */
    private static void listedBad() {
        FloorCurves x = new FloorCurves();
        for (int d : WRONG_DEGREES) {
            DUE.is("17: listed " + d + " 0", x.listed(d, 0), BAD);
            DUE.is("17: listed " + d + " 6", x.listed(d, 6), BAD);
        }
        for (int n : WRONG_KNOTS) {
            DUE.is("17: listed 1 " + n, x.listed(1, n), BAD);
            DUE.is("17: listed 4 " + n, x.listed(4, n), BAD);
        }
    }

    /** 18: "BAD: d, n, also i below 0". */
    private static void takeBad() {
        FloorCurves x = new FloorCurves();
        for (int d : WRONG_DEGREES) {
            DUE.is("18: take " + d + " 0 0", x.take(d, 0, 0), BAD);
        }
        for (int n : WRONG_KNOTS) {
            DUE.is("18: take 4 " + n + " 0", x.take(4, n, 0), BAD);
        }
        for (int i : new int[] {-1, -256, -65536, LOW, LOW + 1}) {
            DUE.is("18: take 4 3 " + i, x.take(4, 3, i), BAD);
        }
        DUE.is("18: nothing came", x.many(0), 0);
    }

    /** 14, 15: COUNT and SIGNED of the least and the most KNOTS of each DEGREE. */
    private static void countAtBothEnds() {
        FloorCurves x = new FloorCurves();
        int[] most = {0, 1, 3, 6};
        long[] due = {1, 3, 15, 105};
        for (int d = 1; d <= 4; d++) {
            DUE.is("14: count " + d + " 0", x.count(d, 0), 1);
            DUE.is("15: signed " + d + " 0", x.signed(d, 0), 1);
            DUE.is("14: without STAIRS " + d, x.count(d, most[d - 1]), due[d - 1]);
            DUE.is("15: without STAIRS " + d, x.signed(d, most[d - 1]), due[d - 1]);
        }
        DUE.is("14: even WEIGHTS count", x.count(3, 1), 12);
        DUE.is("15: even WEIGHTS do not", x.signed(3, 1), 8);
    }

    /** 14 to 17: n is taken up to 6, where a DEGREE has no such PICTURES too: the sum over none is 0. */
    private static void countOfNoPictures() {
        FloorCurves x = new FloorCurves();
        for (int d = 1; d <= 4; d++) {
            for (int n = d * (d - 1) / 2 + 1; n <= 6; n++) {
                String of = " " + d + " " + n;
                DUE.is("14: count" + of, x.count(d, n), 0);
                DUE.is("15: signed" + of, x.signed(d, n), 0);
                DUE.is("16: spreadAll" + of, x.spreadAll(d, n, 0), 0);
                DUE.is("17: listed" + of, x.listed(d, n), 0);
                DUE.is("18: take" + of, x.take(d, n, 0), NONE);
            }
        }
    }

    /** 16: the highest and the lowest power that is reached, and the next; no power is BAD. */
    private static void spreadAllEnds() {
        FloorCurves x = new FloorCurves();
        // d, n, the highest power, how many it has
        int[][] ends = {{1, 0, 0, 1}, {2, 0, 0, 1}, {2, 1, 0, 3}, {3, 1, 1, 1}, {3, 2, 0, 21}, {4, 3, 3, 1}, {4, 2, 2, 3}, {4, 6, 0, 105}};
        for (int[] e : ends) {
            String of = " " + e[0] + " " + e[1];
            DUE.is("16: the highest power" + of, x.spreadAll(e[0], e[1], e[2]), e[3]);
            DUE.is("16: the lowest power" + of, x.spreadAll(e[0], e[1], -e[2]), e[3]);
            for (int k : new int[] {e[2] + 1, 18, 19, 256 + e[2], 65536, 1 << 30, HIGH}) {
                DUE.is("16: above it " + k + of, x.spreadAll(e[0], e[1], k), 0);
            }
            for (int k : new int[] {-e[2] - 1, -18, -19, -256, -65536, LOW, LOW + 1, LOW + 18}) {
                DUE.is("16: below it " + k + of, x.spreadAll(e[0], e[1], k), 0);
            }
            long sum = 0;
            for (int k = -e[2]; k <= e[2]; k++) {
                sum += x.spreadAll(e[0], e[1], k);
            }
            DUE.is("16: the sum is COUNT" + of, sum, x.count(e[0], e[1]));
        }
    }

    /** 17: each DEGREE and number of KNOTS that is taken. */
    private static void listedAtBothEnds() {
        FloorCurves x = new FloorCurves();
        for (int d = 1; d <= 4; d++) {
            for (int n = 0; n <= 6; n++) {
                DUE.is("17: listed " + d + " " + n, x.listed(d, n), AMOUNTS[d - 1][n]);
            }
        }
    }

    /** LISTED: "the less number at the first place where two are unlike comes first". */
    private static void listedOrder() {
        // DEGREE 3: a STAIR 1 2 alone is ahead of 0 2, that of 0 1; 0 1 with WEIGHT 2 behind it is ahead of WEIGHT 1.
        int[][] oneStair = {{1, 2, 1}, {0, 2, 1}, {0, 1, 1}};
        int[][] twoStairs = {{0, 2, 1, 1, 2, 1}, {0, 1, 1, 1, 2, 2}, {0, 1, 1, 1, 2, 1}};
        for (int i = 0; i < 3; i++) {
            isTaken(3, 2, i, oneStair[i]);
            isTaken(3, 1, i, twoStairs[i]);
        }
        int[][] five = {{2, 3, 1}, {1, 3, 1}, {1, 2, 1}, {0, 3, 1}, {0, 2, 1}, {0, 1, 1}};
        for (int i = 0; i < 6; i++) {
            isTaken(4, 5, i, five[i]);
        }
    }

    private static void isTaken(int d, int n, int i, int... stairs) {
        FloorCurves x = new FloorCurves();
        String of = " " + d + " " + n + " " + i;
        DUE.is("18: take" + of, x.take(d, n, i), 0);
        DUE.is("18: STAIRS of" + of, x.about(0, 1), stairs.length / 3);
        for (int c = 0; c < stairs.length; c++) {
            DUE.is("18: told" + of, x.told(0, c / 3, c % 3), stairs[c]);
        }
        DUE.is("19: place of" + of, x.place(0), i);
    }

    /** 18: "LISTED PICTURE i comes: its number.": from 0 on to the last. */
    private static void takeFirstAndLast() {
        for (int d = 1; d <= 4; d++) {
            for (int n = 0; n <= 6; n++) {
                int amount = AMOUNTS[d - 1][n];
                FloorCurves x = new FloorCurves();
                DUE.is("18: the first", x.take(d, n, 0), amount > 0 ? 0 : NONE);
                if (amount > 0) {
                    DUE.is("18: the last", x.take(d, n, amount - 1), 1);
                    DUE.is("18: its DEGREE and KNOTS", x.about(1, 0) * 10 + x.about(1, 3), d * 10 + n);
                    DUE.is("19: the place of the first", x.place(0), 0);
                    DUE.is("19: the place of the last", x.place(1), amount - 1);
                }
            }
        }
    }

    /** 18: "NONE: there is none such". */
    private static void takeNoneSuch() {
        FloorCurves x = new FloorCurves();
        for (int d = 1; d <= 4; d++) {
            for (int n = 0; n <= 6; n++) {
                int amount = AMOUNTS[d - 1][n];
                for (int i : new int[] {amount, amount + 1, 256, 65536, 1 << 30, HIGH}) {
                    DUE.is("18: take " + d + " " + n + " " + i, x.take(d, n, i), NONE);
                }
            }
        }
        DUE.is("18: nothing came", x.many(0), 0);
    }

    /** 18: "FULL.": the eighth comes, a ninth does not. */
    private static void takeFull() {
        FloorCurves x = new FloorCurves();
        for (int p = 0; p < 8; p++) {
            DUE.is("18: take", x.take(4, 3, p), p);
        }
        DUE.is("18: a ninth", x.take(4, 3, 8), FULL);
        DUE.is("18: a ninth", x.take(1, 0, 0), FULL);
        DUE.is("18: nothing came", x.many(0), 8);
        DUE.is("18: the last is as it was", x.place(7), 7);
        DUE.is("5: one goes", x.drop(), 7);
        DUE.is("18: there is room again", x.take(4, 3, 8), 7);
        DUE.is("19: it is the new one", x.place(7), 8);
    }

    /** 18: "BAD: ..; NONE: ..; FULL.", the first that fits. */
    private static void takeFirstThatFits() {
        FloorCurves x = new FloorCurves();
        DUE.is("18: below 0 where there are none", x.take(1, 6, -1), BAD);
        Made.fillUp(x, 8);
        DUE.is("18: BAD ahead of FULL", x.take(5, 0, 0), BAD);
        DUE.is("18: BAD ahead of FULL", x.take(4, 7, 0), BAD);
        DUE.is("18: BAD ahead of FULL", x.take(4, 3, -1), BAD);
        DUE.is("18: NONE ahead of FULL", x.take(4, 3, 20), NONE);
        DUE.is("18: NONE ahead of FULL", x.take(1, 1, 0), NONE);
        DUE.is("18: FULL", x.take(4, 3, 19), FULL);
    }

    /** 18: what comes may be changed, and LISTED stays as it is. */
    private static void takenIsAPictureOfItsOwn() {
        FloorCurves x = new FloorCurves();
        x.take(3, 2, 0);
        DUE.is("3: a STAIR more", x.stair(0, 0, 1, 1), 2);
        DUE.is("19: its place now", x.place(0), 2);
        DUE.is("18: taken again", x.take(3, 2, 0), 1);
        DUE.is("18: without that STAIR", x.about(1, 1), 1);
        DUE.is("17: as many as before", x.listed(3, 2), 3);
    }

    /** 19: "The place of a PICTURE in that order.": from 0 on, however its STAIRS came. */
    private static void placeFirstAndLast() {
        DUE.is("19: one FLOOR", Made.with(1).place(0), 0);
        DUE.is("19: DEGREE 4, the first of 20: nothing from 0", Made.with(4, 2, 3, 1, 1, 2, 1, 2, 3, 1).place(0), 0);
        DUE.is("19: DEGREE 4, the next: a STAIR 0 3", Made.with(4, 0, 3, 1, 1, 3, 1, 2, 3, 1).place(0), 1);
        DUE.is("19: DEGREE 4, the last of 20", Made.with(4, 1, 2, 1, 0, 1, 1, 1, 2, 1).place(0), 19);
        FloorCurves x = Made.with(3, 0, 1, 1, 1, 2, 1);
        DUE.is("19: the last of 3", x.place(0), 2);
        x.cut(0, 0, 1, 1);
        DUE.is("19: the first of 3", x.place(0), 0);
        x.cut(0, 1, 2, 1);
        DUE.is("19: the only one", x.place(0), 0);
    }

    /** 19: of 0 and of the most KNOTS there is one PICTURE alone. */
    private static void placeOfNoKnots() {
        DUE.is("19: 0 KNOTS", Made.with(4, 0, 1, 1, 1, 2, 1, 1, 2, 1, 2, 3, 1, 2, 3, 1, 2, 3, 1).place(0), 0);
        for (int d = 1; d <= 4; d++) {
            DUE.is("19: without STAIRS", Made.with(d).place(0), 0);
        }
    }

    /** 19: "BAD". */
    private static void placeBad() {
        FloorCurves x = Made.with(2);
        for (int p : new int[] {LOW, -1, 1, 8, 256, HIGH}) {
            DUE.is("19: no such PICTURE " + p, x.place(p), BAD);
        }
    }

    /** 19: "STATE: it is not RIGHT.": with KNOTS below 0 too. */
    private static void placeNotRight() {
        DUE.is("19: OUT 1", Made.with(2, 0, 1, 1).place(0), 0);
        DUE.is("19: OUT 2 by WEIGHT", Made.with(2, 0, 1, 2).place(0), STATE);
        DUE.is("19: OUT 2 by two, KNOTS -1", Made.with(2, 0, 1, 1, 0, 1, 1).place(0), STATE);
        DUE.is("19: KNOTS -5", Made.with(2, Made.like(6, 0, 1, 4)).place(0), STATE);
    }
}
