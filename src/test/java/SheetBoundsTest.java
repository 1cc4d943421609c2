import java.util.Arrays;

/** Boundary cases of what Terms 2 says of SHEETS and of promises 27 to 30: a method for each sentence. */
public final class SheetBoundsTest {
    private static final int LOW = Made.LOW, HIGH = Made.HIGH;
    private static final int BAD = FloorCurves.BAD, FULL = FloorCurves.FULL, NONE = FloorCurves.NONE;
    private static final int NULL = -11, INDEX = -12, CAST = -13, SIZE = -14;
    private static final int[] WRONG_SHEETS = {LOW, LOW + 1, -1, 4, 256, 65539, 1 << 30, HIGH};
    private static final int[] WRONG_LANES = {LOW, LOW + 1, -1, 3, 256, 65538, 1 << 30, HIGH};
    private static final Due DUE = new Due("SheetBoundsTest");

    public static void main(String[] args) {
        sheetsZeroToThree();
        lanesZeroToTwo();
        cellsZeroToSixty();
        sheetSize();
        sheetFirstThatFits();
        newCellsAreZero();
        refusedSheetStays();
        layNull();
        layIndex();
        layFirstThatFits();
        lowestBitsOfBytes();
        lowestBitsOfShorts();
        lowestBitsOfInts();
        highestAndLowestCells();
        layChangesOneCell();
        drawBad();
        drawNull();
        drawCast();
        drawNullAheadOfCast();
        drawIndexOfThreeCells();
        drawIndexFromBelow();
        drawIndexHighestAndLowest();
        drawToTheLastCell();
        drawNoneToSix();
        drawNoStairs();
        drawNumberOfNoStair();
        drawNoStairByDegree();
        drawFirstMet();
        drawFullIsLast();
        drawLeavesTheSheet();
        manyBad();
        manyPictures();
        manyCells();
        manyBytes();
        manyStairs();
        DUE.close();
    }

    // ---- 27 sheet, and Terms 2

    /** "SHEETS 0 to 3"; 27: "BAD". */
    private static void sheetsZeroToThree() {
        FloorCurves x = new FloorCurves();
        for (int k = 0; k <= 3; k++) {
            DUE.is("28: nothing at first", x.lay(k, 0, 1), NULL);
            DUE.is("27: sheet " + k, x.sheet(k, 2, 5 + k), 1);
            DUE.is("28: its last CELL", x.lay(k, 4 + k, 1), 1);
            DUE.is("28: behind its last CELL", x.lay(k, 5 + k, 1), INDEX);
        }
        for (int k : WRONG_SHEETS) {
            DUE.is("27: sheet " + k, x.sheet(k, 0, 1), BAD);
            DUE.is("28: lay " + k, x.lay(k, 0, 1), BAD);
            DUE.is("29: draw " + k, x.draw(k, 2, 0, 1, 0), BAD);
        }
        for (int k = 0; k <= 3; k++) {
            DUE.is("27: each has its own CELLS", x.lay(k, 4 + k, 1), 1);
        }
    }

    /** "BYTES (lane 0), SHORTS (1), INTS (2)"; 27: "BAD". */
    private static void lanesZeroToTwo() {
        for (int lane = 0; lane <= 2; lane++) {
            FloorCurves x = new FloorCurves();
            DUE.is("27: lane " + lane, x.sheet(0, lane, 1), 1);
            for (int taken = 0; taken <= 2; taken++) {
                DUE.is("29: taken as of lane " + taken, x.draw(0, taken, 0, 1, 0), taken == lane ? 0 : CAST);
            }
        }
        FloorCurves x = new FloorCurves();
        for (int lane : WRONG_LANES) {
            DUE.is("27: lane " + lane, x.sheet(0, lane, 1), BAD);
            DUE.is("27: nothing came", x.many(1), NONE);
        }
    }

    /** "with 0 to 60 CELLS"; 27: "BAD: also n above 60". */
    private static void cellsZeroToSixty() {
        for (int lane = 0; lane <= 2; lane++) {
            for (int n : new int[] {0, 1, 59, 60}) {
                FloorCurves x = new FloorCurves();
                DUE.is("27: " + n + " CELLS", x.sheet(0, lane, n), 1);
                DUE.is("30: " + n + " CELLS", x.many(1), n);
                DUE.is("28: the first of " + n, x.lay(0, 0, 1), n == 0 ? INDEX : 1);
                DUE.is("28: the last of " + n, x.lay(0, n - 1, 1), n == 0 ? INDEX : 1);
                DUE.is("28: behind the last of " + n, x.lay(0, n, 1), INDEX);
            }
            for (int n : new int[] {61, 62, 256, 316, 65536, 1 << 30, HIGH - 1, HIGH}) {
                FloorCurves x = new FloorCurves();
                DUE.is("27: " + n + " CELLS", x.sheet(0, lane, n), BAD);
                DUE.is("27: nothing came", x.many(1), NONE);
            }
        }
    }

    /** 27, "4 SIZE (below 0)": "-10 - 4." */
    private static void sheetSize() {
        for (int lane = 0; lane <= 2; lane++) {
            for (int n : new int[] {-1, -60, -61, -256, -65536, LOW + 1, LOW}) {
                FloorCurves x = new FloorCurves();
                DUE.is("27: " + n + " CELLS", x.sheet(3, lane, n), SIZE);
                DUE.is("27: it still has nothing", x.lay(3, 0, 0), NULL);
            }
        }
    }

    /** 27: "BAD: ..; -10 - 4.", the first that fits. */
    private static void sheetFirstThatFits() {
        FloorCurves x = new FloorCurves();
        for (int n : new int[] {-1, LOW}) {
            for (int k : WRONG_SHEETS) {
                DUE.is("27: no such SHEET ahead of SIZE", x.sheet(k, 0, n), BAD);
            }
            for (int lane : WRONG_LANES) {
                DUE.is("27: no such lane ahead of SIZE", x.sheet(0, lane, n), BAD);
            }
        }
    }

    /** 27: "A SHEET is a new row of CELLS 0": of a new SHEET, and of one that was laid. */
    private static void newCellsAreZero() {
        for (int lane = 0; lane <= 2; lane++) {
            for (int was = -1; was <= 2; was++) {
                FloorCurves x = renewed(was, lane);
                // CELL i is from, ahead of to 1 and WEIGHT 1; CELLS below it have not been laid yet.
                for (int i = 57; i >= 0; i--) {
                    x.lay(0, i + 1, 1);
                    x.lay(0, i + 2, 1);
                    DUE.is("27: with CELL " + i + " as from it is a STAIR", x.draw(0, lane, i, 4, 1), 0);
                    DUE.is("27: CELL " + i, x.told(0, 0, 0), 0);
                    x.drop();
                }
                FloorCurves last = renewed(was, lane);
                last.lay(0, 58, 1);
                DUE.is("27: CELL 59 as WEIGHT", last.draw(0, lane, 57, 4, 1), -20);
                FloorCurves lastButOne = renewed(was, lane);
                lastButOne.lay(0, 59, 1);
                DUE.is("27: CELL 58 as to", lastButOne.draw(0, lane, 57, 4, 1), -20);
            }
        }
    }

    /** 60 new CELLS where a SHEET of the lane that was (-1: none) had been laid with STAIRS, and then cut to 3. */
    private static FloorCurves renewed(int was, int lane) {
        FloorCurves x = new FloorCurves();
        if (was >= 0) {
            Made.lay(x, 0, was, Made.like(20, 1, 2, 3));
            x.sheet(0, was, 3);
        }
        DUE.is("27: sheet", x.sheet(0, lane, 60), 1);
        return x;
    }

    /** 27: what is refused leaves the SHEET that was there: its lane, its CELLS, what was laid. */
    private static void refusedSheetStays() {
        int[][] refused = {{0, 1, 61}, {0, 1, HIGH}, {0, 1, -1}, {0, 1, LOW}, {0, 3, 1}, {0, -1, 1}, {4, 1, 1}, {-1, 1, 1}};
        for (int[] r : refused) {
            FloorCurves x = Made.laid(0, 0, 1, 2, 0, 1, 3);
            DUE.is("27: refused", Math.min(0, x.sheet(r[0], r[1], r[2]) + 1), r[1] == 1 && r[2] < 0 ? SIZE + 1 : 0);
            DUE.is("27: as many CELLS", x.many(1), 6);
            DUE.is("27: of its lane, as laid", x.draw(0, 0, 0, 2, 2), 0);
            DUE.is("27: as laid", x.told(0, 0, 2) * 10 + x.told(0, 1, 2), 23);
        }
    }

    // ---- 28 lay

    /** 28: "NULL": each SHEET until it is a row, one of no CELLS too. */
    private static void layNull() {
        FloorCurves x = new FloorCurves();
        for (int k = 0; k <= 3; k++) {
            for (int i : new int[] {LOW, -1, 0, 59, 60, HIGH}) {
                DUE.is("28: NULL", x.lay(k, i, 1), NULL);
            }
            x.sheet(k, 0, 0);
            DUE.is("28: no more NULL", x.lay(k, 0, 1), INDEX);
        }
    }

    /** 28: "INDEX.": below the first CELL, behind the last. */
    private static void layIndex() {
        for (int lane = 0; lane <= 2; lane++) {
            for (int n : new int[] {1, 2, 60}) {
                FloorCurves x = new FloorCurves();
                x.sheet(1, lane, n);
                for (int i : new int[] {LOW, LOW + 1, -256, -1, n, 60, 256, 65536, 1 << 30, HIGH}) {
                    DUE.is("28: CELL " + i + " of " + n, x.lay(1, i, 1), INDEX);
                }
                for (int i = 0; i < n; i++) {
                    DUE.is("28: CELL " + i + " of " + n, x.lay(1, i, 1), 1);
                }
            }
        }
        FloorCurves fewer = new FloorCurves();
        fewer.sheet(0, 0, 9);
        fewer.sheet(0, 0, 3);
        DUE.is("28: fewer CELLS than before", fewer.lay(0, 3, 1), INDEX);
    }

    /** 28: "BAD: k; -10 less the FAULT: NULL, INDEX.", the first that fits. */
    private static void layFirstThatFits() {
        FloorCurves x = new FloorCurves();
        DUE.is("28: BAD first", x.lay(4, -1, 0), BAD);
        DUE.is("28: NULL ahead of INDEX", x.lay(3, -1, 0), NULL);
        x.sheet(3, 0, 1);
        DUE.is("28: INDEX", x.lay(3, -1, 0), INDEX);
    }

    /** What is read of a SHEET of a lane, when v is laid as from (0), to (1), WEIGHT (2): a STAIR, if the CELL is as due. */
    private static void cellIs(int lane, int v, int due) {
        for (int part = 0; part < 3; part++) {
            int[] cells = {0, 2, 1};
            cells[part] = v;
            FloorCurves x = Made.laid(lane, cells);
            cells[part] = due;
            boolean right = 0 <= cells[0] && cells[0] < cells[1] && cells[1] < 4 && 1 <= cells[2] && cells[2] <= 4;
            String of = v + " in lane " + lane + " as part " + part;
            DUE.is("28: " + of, x.draw(0, lane, 0, 4, 1), right ? 0 : -20);
            DUE.is("28: " + of, x.told(0, 0, part), right ? due : BAD);
        }
    }

    /** 28: "CELL i of a SHEET becomes v (its lowest bits)": 8 of a BYTE, with sign. */
    private static void lowestBitsOfBytes() {
        for (int low = -2; low <= 5; low++) {
            for (int high : new int[] {0, 256, -256, 512, 65536, -65536, 1 << 30, LOW, 0x7fffff00}) {
                cellIs(0, high + low, low);
            }
        }
        cellIs(0, 127, 127);
        cellIs(0, 128, -128);
        cellIs(0, 129, -127);
        cellIs(0, -128, -128);
        cellIs(0, 255, -1);
        cellIs(0, 256, 0);
        cellIs(0, -255, 1);
    }

    /** Of a SHORT 16, with sign: 256 is not 0. */
    private static void lowestBitsOfShorts() {
        for (int low = -2; low <= 5; low++) {
            for (int high : new int[] {0, 65536, -65536, 1 << 20, 1 << 30, LOW, 0x7fff0000}) {
                cellIs(1, high + low, low);
            }
            for (int high : new int[] {256, -256, 32512, -32768 + 256}) {
                cellIs(1, high + low, high + low);
            }
        }
        cellIs(1, 32767, 32767);
        cellIs(1, 32768, -32768);
        cellIs(1, 32769, -32767);
        cellIs(1, 65535, -1);
    }

    /** Of an INT all 32: 256 and 65536 are not 0. */
    private static void lowestBitsOfInts() {
        for (int low = -2; low <= 5; low++) {
            cellIs(2, low, low);
            for (int high : new int[] {256, -256, 65536, -65536, 1 << 30, 1 << 20}) {
                cellIs(2, high + low, high + low);
            }
        }
    }

    /** The highest and the lowest int: in BYTES and SHORTS -1 and 0. */
    private static void highestAndLowestCells() {
        for (int lane = 0; lane <= 2; lane++) {
            cellIs(lane, HIGH, lane == 2 ? HIGH : -1);
            cellIs(lane, LOW, lane == 2 ? LOW : 0);
            cellIs(lane, LOW + 1, lane == 2 ? LOW + 1 : 1);
            cellIs(lane, HIGH - 1, lane == 2 ? HIGH - 1 : -2);
            cellIs(lane, -1, -1);
        }
    }

    /** 28: CELL i alone becomes v, the first and the last too; of that SHEET alone. */
    private static void layChangesOneCell() {
        FloorCurves x = Made.laid(1, Made.like(20, 0, 1, 1));
        Made.lay(x, 1, 1, Made.like(20, 0, 1, 1));
        for (int i : new int[] {2, 29, 59}) {
            x.lay(0, i, 65538);
        }
        for (int s = 0; s < 20; s++) {
            boolean changed = s == 0 || s == 9 || s == 19;
            x.draw(0, 1, 3 * s, 2, 1);
            DUE.is("28: STAIR " + s, x.told(0, 0, 2), changed ? 2 : 1);
            x.drop();
            x.draw(1, 1, 3 * s, 2, 1);
            DUE.is("28: STAIR " + s + " of SHEET 1", x.told(0, 0, 2), 1);
            x.drop();
        }
    }

    // ---- 29 draw

    /** 29: "BAD: k, lane, n, d": each alone, and ahead of NULL, CAST, INDEX, no STAIR. */
    private static void drawBad() {
        FloorCurves x = Made.laid(0, Made.like(6, 0, 1, 1));
        for (int k : WRONG_SHEETS) {
            DUE.is("29: k " + k, x.draw(k, 0, 0, 2, 1), BAD);
        }
        for (int lane : WRONG_LANES) {
            DUE.is("29: lane " + lane, x.draw(0, lane, 0, 2, 1), BAD);
            DUE.is("29: ahead of NULL", x.draw(1, lane, 0, 2, 1), BAD);
        }
        for (int n : new int[] {LOW, LOW + 1, -1, 7, 256, 65537, 1 << 30, HIGH}) {
            DUE.is("29: n " + n, x.draw(0, 0, 0, 2, n), BAD);
            DUE.is("29: ahead of NULL", x.draw(1, 0, 0, 2, n), BAD);
            DUE.is("29: ahead of CAST", x.draw(0, 1, 0, 2, n), BAD);
            DUE.is("29: ahead of INDEX", x.draw(0, 0, -1, 2, n), BAD);
        }
        for (int d : new int[] {LOW, LOW + 1, -1, 0, 5, 257, 65538, (1 << 30) + 1, HIGH}) {
            DUE.is("29: d " + d, x.draw(0, 0, 0, d, 1), BAD);
            DUE.is("29: ahead of NULL", x.draw(1, 0, 0, d, 0), BAD);
            DUE.is("29: ahead of CAST", x.draw(0, 1, 0, d, 1), BAD);
            DUE.is("29: ahead of INDEX", x.draw(0, 0, HIGH, d, 1), BAD);
        }
        DUE.is("29: nothing came", x.many(0), 0);
        for (int d = 1; d <= 4; d++) {
            DUE.is("29: d " + d, x.draw(0, 0, 0, d, 0), d - 1);
            DUE.is("29: its DEGREE", x.about(d - 1, 0), d);
        }
    }

    /** 29: "NULL": also where none are read. */
    private static void drawNull() {
        FloorCurves x = new FloorCurves();
        for (int k = 0; k <= 3; k++) {
            for (int lane = 0; lane <= 2; lane++) {
                DUE.is("29: NULL", x.draw(k, lane, 0, 4, 0), NULL);
                DUE.is("29: NULL", x.draw(k, lane, 0, 4, 6), NULL);
            }
        }
        DUE.is("29: nothing came", x.many(0), 0);
    }

    /** 29, "3 CAST (another lane)": each lane taken as of each other; also of no CELLS, and where none are read. */
    private static void drawCast() {
        for (int lane = 0; lane <= 2; lane++) {
            for (int taken = 0; taken <= 2; taken++) {
                FloorCurves x = Made.laid(lane, 0, 1, 1);
                DUE.is("29: one is read", x.draw(0, taken, 0, 2, 1), taken == lane ? 0 : CAST);
                DUE.is("29: none are read", x.draw(0, taken, 0, 2, 0), taken == lane ? 1 : CAST);
                FloorCurves empty = Made.laid(lane);
                DUE.is("29: of no CELLS", empty.draw(0, taken, 0, 2, 0), taken == lane ? 0 : CAST);
                empty.sheet(0, taken, 0);
                DUE.is("29: the lane it has now", empty.draw(0, taken, 0, 2, 0), taken == lane ? 1 : 0);
            }
        }
    }

    /** 29: "NULL, CAST, then .. INDEX": nothing is of no lane; CAST ahead of INDEX and of no STAIR. */
    private static void drawNullAheadOfCast() {
        FloorCurves x = Made.laid(2, 9, 9, 9);
        DUE.is("29: NULL", x.draw(1, 2, -1, 4, 1), NULL);
        DUE.is("29: CAST ahead of INDEX", x.draw(0, 0, -1, 4, 1), CAST);
        DUE.is("29: CAST ahead of INDEX", x.draw(0, 1, HIGH, 4, 6), CAST);
        DUE.is("29: CAST ahead of no STAIR", x.draw(0, 1, 0, 4, 1), CAST);
        DUE.is("29: no STAIR", x.draw(0, 2, 0, 4, 1), -20);
    }

    /** 29: "INDEX (of its three CELLS)": where the first, the second, the third is behind the last. */
    private static void drawIndexOfThreeCells() {
        int[] cells = {0, 1, 1, 0, 1, 1};
        for (int lane = 0; lane <= 2; lane++) {
            for (int n = 0; n <= 6; n++) {
                FloorCurves x = Made.laid(lane, Arrays.copyOf(cells, n));
                DUE.is("29: one of " + n + " CELLS", x.draw(0, lane, 0, 2, 1), n < 3 ? INDEX : 0);
                DUE.is("29: two of " + n + " CELLS", x.draw(0, lane, 0, 2, 2), n < 6 ? INDEX : 1);
                DUE.is("29: one from 3 of " + n + " CELLS", x.draw(0, lane, 3, 2, 1), n < 6 ? INDEX : 2);
            }
        }
        FloorCurves noStair = Made.laid(0, 9, 9);
        DUE.is("29: INDEX of the third ahead of no STAIR", noStair.draw(0, 0, 0, 4, 1), INDEX);
    }

    /** 29: f below 0: where the third CELL is there, the second and third, none. */
    private static void drawIndexFromBelow() {
        FloorCurves x = Made.laid(0, Made.like(3, 0, 1, 1));
        for (int f : new int[] {-1, -2, -3, -4, -9, -256}) {
            DUE.is("29: from " + f, x.draw(0, 0, f, 2, 1), INDEX);
            DUE.is("29: from " + f, x.draw(0, 0, f, 2, 6), INDEX);
        }
        DUE.is("29: from 0", x.draw(0, 0, 0, 2, 1), 0);
    }

    /** 29: the highest and the lowest f: no CELL of them wraps around into the SHEET. */
    private static void drawIndexHighestAndLowest() {
        FloorCurves x = Made.laid(2, Made.like(20, 0, 1, 1));
        for (int off = 0; off < 20; off++) {
            DUE.is("29: from high less " + off, x.draw(0, 2, HIGH - off, 2, 6), INDEX);
            DUE.is("29: from low and " + off, x.draw(0, 2, LOW + off, 2, 6), INDEX);
        }
        for (int f : new int[] {256, 65536, 1 << 30}) {
            DUE.is("29: from " + f, x.draw(0, 2, f, 2, 1), INDEX);
        }
        DUE.is("29: none are read from high", x.draw(0, 2, HIGH, 2, 0), 0);
        DUE.is("29: none are read from low", x.draw(0, 2, LOW, 2, 0), 1);
        DUE.is("29: without STAIRS", x.many(3), 0);
    }

    /** 29: "from CELL f on": up to the last CELL, from any f, not only each third. */
    private static void drawToTheLastCell() {
        for (int n = 1; n <= 6; n++) {
            FloorCurves x = Made.laid(1, Made.like(20, 0, 1, 1));
            DUE.is("29: the last " + n, x.draw(0, 1, 60 - 3 * n, 2, n), 0);
            DUE.is("29: one CELL too many", x.draw(0, 1, 61 - 3 * n, 2, n), n == 1 ? INDEX : -20);
        }
        FloorCurves six = Made.laid(1, Made.like(7, 0, 1, 1));
        DUE.is("29: six of seven", six.draw(0, 1, 3, 2, 6), 0);
        DUE.is("29: the sixth is behind the last", six.draw(0, 1, 6, 2, 6), INDEX);
        DUE.is("29: from CELL 1", Made.laid(0, 9, 0, 3, 4).draw(0, 0, 1, 4, 1), 0);
        DUE.is("29: from CELL 2", Made.laid(0, 9, 9, 0, 3, 4).draw(0, 0, 2, 4, 1), 0);
    }

    /** 29: "n (0 to 6) STAIRS are read". */
    private static void drawNoneToSix() {
        for (int n = 0; n <= 6; n++) {
            FloorCurves x = Made.laid(0, Made.like(7, 0, 1, 2));
            DUE.is("29: draw " + n, x.draw(0, 0, 0, 2, n), 0);
            DUE.is("29: so many STAIRS", x.about(0, 1), n);
            DUE.is("29: their OUT", x.out(0, 0), 2 * n);
        }
        DUE.is("29: seven", Made.laid(0, Made.like(7, 0, 1, 2)).draw(0, 0, 0, 2, 7), BAD);
    }

    /** 29: where n is 0 nothing is read: not of no CELLS, not of CELLS that are no STAIR. */
    private static void drawNoStairs() {
        FloorCurves x = Made.laid(0);
        DUE.is("29: of no CELLS", x.draw(0, 0, 0, 3, 0), 0);
        DUE.is("29: from -1", x.draw(0, 0, -1, 3, 0), 1);
        x.sheet(0, 0, 3);
        DUE.is("29: 0 0 0", x.draw(0, 0, 0, 3, 0), 2);
        DUE.is("29: of DEGREE 1", x.draw(0, 0, 0, 1, 0), 3);
        DUE.is("30: without STAIRS", x.many(3), 0);
    }

    /** 29: "-20 less i: number i is no STAIR": the first and the sixth. */
    private static void drawNumberOfNoStair() {
        for (int i = 0; i < 6; i++) {
            int[] cells = Made.like(6, 0, 1, 1);
            cells[3 * i + 2] = 5;
            FloorCurves x = Made.laid(0, cells);
            DUE.is("29: number " + i, x.draw(0, 0, 0, 2, 6), -20 - i);
            DUE.is("29: nothing came", x.many(0), 0);
            DUE.is("29: it is not read", x.draw(0, 0, 0, 2, i), 0);
        }
        for (int[] none : new int[][] {{0, 0, 1}, {1, 0, 1}, {1, 1, 1}, {-1, 1, 1}, {0, 4, 1}, {3, 4, 1}, {0, 1, 0}, {0, 1, 5}, {0, 1, -1}}) {
            DUE.is("29: no STAIR", Made.laid(2, none).draw(0, 2, 0, 4, 1), -20);
        }
    }

    /** 29: "into a new PICTURE of DEGREE d": to FLOOR d - 1 it is a STAIR, to FLOOR d it is none. */
    private static void drawNoStairByDegree() {
        for (int d = 1; d <= 4; d++) {
            for (int j = 1; j <= 4; j++) {
                DUE.is("29: to " + j + " of " + d, Made.laid(0, 0, j, 4).draw(0, 0, 0, d, 1), j < d ? 0 : -20);
            }
        }
    }

    /** 29: "STAIR by STAIR ..; the first met": no STAIR ahead of a later INDEX, INDEX ahead of a later no STAIR. */
    private static void drawFirstMet() {
        FloorCurves x = Made.laid(0, 0, 1, 1, 9, 9, 9, 0, 1);
        DUE.is("29: number 1 ahead of INDEX of number 2", x.draw(0, 0, 0, 2, 3), -21);
        DUE.is("29: two no STAIRS: the first", Made.laid(0, 9, 9, 9, 9, 9, 9).draw(0, 0, 0, 2, 2), -20);
        DUE.is("29: INDEX of number 0, though number 1 is none", x.draw(0, 0, -1, 2, 2), INDEX);
        DUE.is("29: INDEX of number 1", Made.laid(0, 0, 1, 1, 9, 9).draw(0, 0, 0, 2, 2), INDEX);
    }

    /** 29: "; FULL.": behind all others. */
    private static void drawFullIsLast() {
        FloorCurves x = Made.laid(0, 0, 1, 1);
        Made.fillUp(x, 7);
        DUE.is("29: the eighth", x.draw(0, 0, 0, 2, 1), 7);
        DUE.is("29: a ninth", x.draw(0, 0, 0, 2, 1), FULL);
        DUE.is("29: a ninth without STAIRS", x.draw(0, 0, 0, 2, 0), FULL);
        DUE.is("29: BAD", x.draw(0, 0, 0, 5, 1), BAD);
        DUE.is("29: NULL", x.draw(1, 0, 0, 2, 1), NULL);
        DUE.is("29: CAST", x.draw(0, 1, 0, 2, 1), CAST);
        DUE.is("29: INDEX", x.draw(0, 0, 1, 2, 1), INDEX);
        DUE.is("29: no STAIR", x.draw(0, 0, 0, 1, 1), -20);
        DUE.is("29: nothing came", x.many(0) * 10 + x.many(3), 81);
        x.drop();
        DUE.is("29: there is room again", x.draw(0, 0, 0, 2, 1), 7);
    }

    /** 29: the PICTURE is its own: what is laid later does not change it, nor does it change the SHEET. */
    private static void drawLeavesTheSheet() {
        FloorCurves x = Made.laid(0, 0, 1, 1);
        x.draw(0, 0, 0, 2, 1);
        x.lay(0, 2, 4);
        DUE.is("7: as drawn", x.told(0, 0, 2), 1);
        x.cut(0, 0, 1, 1);
        DUE.is("29: drawn again", x.draw(0, 0, 0, 2, 1), 1);
        DUE.is("7: as laid now", x.told(1, 0, 2), 4);
        x.sheet(0, 0, 0);
        DUE.is("7: the PICTURE stays", x.told(1, 0, 2), 4);
    }

    // ---- 30 many

    /** 30: "0 PICTURES, .. 3 STAIRS of all PICTURES. BAD." */
    private static void manyBad() {
        FloorCurves x = new FloorCurves();
        for (int what : new int[] {LOW, LOW + 1, -1, 4, 256, 65539, 1 << 30, HIGH}) {
            DUE.is("30: many " + what, x.many(what), BAD);
        }
        DUE.is("30: many 0", x.many(0), 0);
        DUE.is("30: many 3", x.many(3), 0);
    }

    /** 30: "0 PICTURES": none to 8. */
    private static void manyPictures() {
        FloorCurves x = new FloorCurves();
        for (int p = 0; p < 8; p++) {
            DUE.is("30: PICTURES", x.many(0), p);
            x.picture(4);
        }
        DUE.is("30: PICTURES", x.many(0), 8);
        x.picture(4);
        DUE.is("30: not more", x.many(0), 8);
        for (int p = 7; p >= 0; p--) {
            x.drop();
            DUE.is("30: PICTURES", x.many(0), p);
        }
        x.drop();
        DUE.is("30: not fewer", x.many(0), 0);
    }

    /** 30: "1 CELLS of SHEET 0 (NONE: nothing)": no CELLS are not nothing; other SHEETS do not count. */
    private static void manyCells() {
        FloorCurves x = new FloorCurves();
        for (int k = 1; k <= 3; k++) {
            x.sheet(k, 0, 60);
        }
        DUE.is("30: nothing", x.many(1), NONE);
        for (int n : new int[] {0, 60, 1, 59, 0}) {
            x.sheet(0, 1, n);
            DUE.is("30: CELLS", x.many(1), n);
        }
    }

    /** 30: "2 bytes on THE TAPE": none to 80. */
    private static void manyBytes() {
        FloorCurves x = new FloorCurves();
        DUE.is("30: bytes", x.many(2), 0);
        for (int feeds = 1; feeds <= 10; feeds++) {
            x.feed(-1);
            DUE.is("30: bytes", x.many(2), 8 * feeds);
        }
        x.feed(-1);
        DUE.is("30: not more", x.many(2), 80);
        x.end(1);
        DUE.is("30: bytes", x.many(2), 1);
        x.text();
        DUE.is("30: bytes", x.many(2), 0);
    }

    /** 30: "3 STAIRS of all PICTURES": none to 48. */
    private static void manyStairs() {
        FloorCurves x = new FloorCurves();
        for (int p = 0; p < 8; p++) {
            x.picture(2);
            for (int s = 0; s < 7; s++) {
                DUE.is("30: STAIRS", x.many(3), 6 * p + Math.min(s, 6));
                x.stair(p, 0, 1, 4);
            }
        }
        DUE.is("30: STAIRS", x.many(3), 48);
        x.cut(0, 0, 1, 4);
        DUE.is("30: one fewer", x.many(3), 47);
        x.drop();
        DUE.is("30: six fewer", x.many(3), 41);
    }
}
