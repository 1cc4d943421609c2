/** Promises 27 to 30: SHEETS, and how many there are. */
public final class SheetsTest {
    private static final int LOW = Integer.MIN_VALUE, HIGH = Integer.MAX_VALUE;
    private static final Due DUE = new Due("SheetsTest");

    public static void main(String[] args) {
        sheets();
        cells();
        lowestBits();
        drawing();
        drawingRefuses();
        drawingWhenFull();
        many();
        DUE.close();
    }

    private static FloorCurves laid(int lane, int... cells) {
        FloorCurves x = new FloorCurves();
        DUE.is("27: sheet", x.sheet(0, lane, cells.length), 1);
        for (int i = 0; i < cells.length; i++) {
            DUE.is("28: lay", x.lay(0, i, cells[i]), 1);
        }
        return x;
    }

    private static void sheets() {
        FloorCurves x = new FloorCurves();
        for (int k = 0; k < 4; k++) {
            for (int lane = 0; lane < 3; lane++) {
                DUE.is("27: sheet", x.sheet(k, lane, 60), 1);
                DUE.is("27: no CELLS", x.sheet(k, lane, 0), 1);
                DUE.is("27: SIZE", x.sheet(k, lane, -1), -14);
                DUE.is("27: SIZE", x.sheet(k, lane, LOW), -14);
                DUE.is("27: above 60", x.sheet(k, lane, 61), FloorCurves.BAD);
                DUE.is("27: above 60", x.sheet(k, lane, HIGH), FloorCurves.BAD);
            }
        }
        for (int wrong : new int[] {-1, 4, LOW, HIGH}) {
            DUE.is("27: no such SHEET", x.sheet(wrong, 0, 1), FloorCurves.BAD);
            DUE.is("27: no such lane", x.sheet(0, wrong == 4 ? 3 : wrong, 1), FloorCurves.BAD);
            DUE.is("27: BAD comes first", x.sheet(wrong, 0, -1), FloorCurves.BAD);
            DUE.is("27: BAD comes first", x.sheet(0, wrong == 4 ? 3 : wrong, -1), FloorCurves.BAD);
        }
        x.sheet(0, 1, 7);
        x.sheet(0, 1, -1);
        x.sheet(0, 1, 61);
        DUE.is("27: what is refused changes nothing", x.many(1), 7);
    }

    private static void cells() {
        FloorCurves x = new FloorCurves();
        DUE.is("28: NULL", x.lay(2, -1, 0), -11);
        x.sheet(2, 0, 3);
        DUE.is("28: the last", x.lay(2, 2, 1), 1);
        for (int i : new int[] {-1, 3, LOW, HIGH}) {
            DUE.is("28: INDEX", x.lay(2, i, 1), -12);
        }
        for (int k : new int[] {-1, 4, LOW, HIGH}) {
            DUE.is("28: no such SHEET", x.lay(k, 0, 1), FloorCurves.BAD);
        }
        x.sheet(2, 0, 0);
        DUE.is("28: no CELLS", x.lay(2, 0, 1), -12);
        FloorCurves again = laid(0, 0, 1, 1);
        DUE.is("29: a STAIR", again.draw(0, 0, 0, 2, 1), 0);
        again.sheet(0, 0, 3);
        DUE.is("27: new CELLS are 0", again.draw(0, 0, 0, 2, 1), -20);
    }

    private static void lowestBits() {
        int[][] laidAndDue = {{0, 257, 1}, {0, -255, 1}, {0, 128 + 1, -20}, {1, 65537, 1}, {1, 257, -20},
            {1, -65535, 1}, {2, 65537, -20}, {2, 257, -20}, {2, 1, 1}, {0, 0x7fffff01, 1}};
        for (int[] row : laidAndDue) {
            FloorCurves x = laid(row[0], 0, 1, row[1]);
            int answer = x.draw(0, row[0], 0, 2, 1);
            DUE.is("28: " + row[1] + " of lane " + row[0], answer == 0 ? x.told(0, 0, 2) : answer, row[2]);
        }
    }

    private static void drawing() {
        FloorCurves x = laid(2, 9, 2, 3, 1, 0, 1, 4, 0, 1, 2, 9, 9);
        DUE.is("29: draw", x.draw(0, 2, 1, 4, 3), 0);
        int[] order = {0, 1, 2, 0, 1, 4, 2, 3, 1};
        for (int i = 0; i < 9; i++) {
            DUE.is("29: in order", x.told(0, i / 3, i % 3), order[i]);
        }
        DUE.is("29: its DEGREE", x.about(0, 0), 4);
        DUE.is("29: its OUT", x.out(0, 0), 6);
        DUE.is("29: none are read", x.draw(0, 2, HIGH, 1, 0), 1);
        DUE.is("29: none are read", x.draw(0, 2, LOW, 1, 0), 2);
        DUE.is("29: without STAIRS", x.about(2, 1), 0);
        FloorCurves six = laid(1, 0, 1, 1, 0, 1, 1, 0, 1, 1, 0, 1, 1, 0, 1, 1, 0, 1, 1);
        DUE.is("29: six STAIRS", six.draw(0, 1, 0, 2, 6), 0);
        DUE.is("29: six STAIRS", six.about(0, 1), 6);
    }

    private static void drawingRefuses() {
        FloorCurves x = laid(0, 0, 1, 1, 1, 2, 1, 5, 5);
        int[][] wrong = {{-1, 0, 0, 3, 1}, {4, 0, 0, 3, 1}, {0, -1, 0, 3, 1}, {0, 3, 0, 3, 1}, {0, 0, 0, 0, 1},
            {0, 0, 0, 5, 1}, {0, 0, 0, 3, -1}, {0, 0, 0, 3, 7}, {1, 3, 0, 3, 1}, {1, 0, 0, 3, 7}, {0, 1, 0, 5, 1}};
        for (int[] w : wrong) {
            DUE.is("29: BAD", x.draw(w[0], w[1], w[2], w[3], w[4]), FloorCurves.BAD);
        }
        DUE.is("29: NULL", x.draw(1, 2, -1, 3, 1), -11);
        DUE.is("29: CAST", x.draw(0, 1, -1, 3, 1), -13);
        DUE.is("29: CAST of no STAIRS", x.draw(0, 2, 0, 3, 0), -13);
        for (int f : new int[] {-1, -3, 6, 7, 8, LOW, HIGH, HIGH - 1, HIGH - 2}) {
            DUE.is("29: INDEX from " + f, x.draw(0, 0, f, 3, 1), -12);
        }
        DUE.is("29: the third is cut off", x.draw(0, 0, 0, 3, 3), -12);
        DUE.is("29: number 1 is no STAIR, and met first", x.draw(0, 0, 0, 2, 3), -21);
        DUE.is("29: number 0 is no STAIR, and met first", x.draw(0, 0, 1, 3, 6), -20);
        DUE.is("29: the last three CELLS", x.draw(0, 0, 5, 3, 1), -20);
        DUE.is("29: nothing came", x.many(0), 0);
        int[][] noStairs = {{1, 0, 1}, {1, 1, 1}, {-1, 1, 1}, {0, 3, 1}, {0, 1, 0}, {0, 1, 5}, {0, 1, -1}};
        for (int[] s : noStairs) {
            DUE.is("29: no STAIR", laid(2, s).draw(0, 2, 0, 3, 1), -20);
        }
    }

    private static void drawingWhenFull() {
        FloorCurves x = laid(0, 0, 1, 1);
        for (int p = 0; p < 8; p++) {
            DUE.is("29: draw", x.draw(0, 0, 0, 2, 1), p);
        }
        DUE.is("29: full", x.draw(0, 0, 0, 2, 1), FloorCurves.FULL);
        DUE.is("29: INDEX ahead of FULL", x.draw(0, 0, 1, 2, 1), -12);
        DUE.is("29: no STAIR ahead of FULL", x.draw(0, 0, 0, 1, 1), -20);
        DUE.is("29: CAST ahead of FULL", x.draw(0, 1, 0, 2, 1), -13);
        DUE.is("29: NULL ahead of FULL", x.draw(1, 0, 0, 2, 1), -11);
        DUE.is("29: BAD first", x.draw(0, 0, 0, 5, 1), FloorCurves.BAD);
        DUE.is("30: nothing came", x.many(3), 8);
    }

    private static void many() {
        FloorCurves x = new FloorCurves();
        DUE.is("30: nothing", x.many(1), FloorCurves.NONE);
        x.sheet(1, 0, 5);
        DUE.is("30: SHEET 0 alone", x.many(1), FloorCurves.NONE);
        x.sheet(0, 0, 0);
        DUE.is("30: no CELLS", x.many(1), 0);
        x.sheet(0, 2, 60);
        DUE.is("30: CELLS", x.many(1), 60);
        x.feed(1);
        x.end(3);
        DUE.is("30: bytes", x.many(2), 3);
        x.picture(2);
        x.stair(0, 0, 1, 1);
        x.picture(3);
        x.stair(1, 0, 2, 1);
        x.stair(1, 0, 2, 1);
        DUE.is("30: PICTURES", x.many(0), 2);
        DUE.is("30: STAIRS of all", x.many(3), 3);
        x.drop();
        DUE.is("30: STAIRS of those that stay", x.many(3), 1);
        for (int what : new int[] {-1, 4, LOW, HIGH}) {
            DUE.is("30: many " + what, x.many(what), FloorCurves.BAD);
        }
    }
}
