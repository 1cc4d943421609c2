/** Promises 1 to 13: PICTURES and their MARKINGS. */
public final class PicturesTest {
    private static final int LOW = Integer.MIN_VALUE, HIGH = Integer.MAX_VALUE;
    private static final Due DUE = new Due("PicturesTest");

    public static void main(String[] args) {
        newObject();
        picturesComeAndGo();
        stairsComeAndGo();
        stairsAreInOrder();
        aboutPictures();
        outOfFloors();
        spreads();
        markings();
        between();
        unlike();
        turned();
        DUE.close();
    }

    private static FloorCurves with(int d, int... stairs) {
        FloorCurves x = new FloorCurves();
        DUE.is("picture " + d, x.picture(d), 0);
        addTo(x, 0, stairs);
        return x;
    }

    private static void addTo(FloorCurves x, int p, int... stairs) {
        for (int s = 0; s < stairs.length; s += 3) {
            x.stair(p, stairs[s], stairs[s + 1], stairs[s + 2]);
        }
    }

    private static void newObject() {
        FloorCurves x = new FloorCurves();
        DUE.is("1: no PICTURES", x.many(0), 0);
        DUE.is("1: no such PICTURE", x.about(0, 0), FloorCurves.BAD);
        DUE.is("1: no STAIRS", x.many(3), 0);
        DUE.is("1: no bytes", x.many(2), 0);
        DUE.is("1: nothing told", x.has(0, 1), FloorCurves.STATE);
        DUE.is("1: nothing told", x.tangent(0), FloorCurves.STATE);
        DUE.is("1: no FAULT", x.fault(), 0);
        DUE.is("1: SHEET 0 has nothing", x.many(1), FloorCurves.NONE);
        for (int k = 0; k < 4; k++) {
            DUE.is("1: SHEET has nothing", x.lay(k, 0, 0), -11);
        }
    }

    private static void picturesComeAndGo() {
        FloorCurves x = new FloorCurves();
        DUE.is("5: drop of none", x.drop(), FloorCurves.NONE);
        for (int d : new int[] {0, 5, -1, LOW, HIGH}) {
            DUE.is("2: picture " + d, x.picture(d), FloorCurves.BAD);
        }
        for (int p = 0; p < 8; p++) {
            DUE.is("2: picture", x.picture(1 + p % 4), p);
        }
        DUE.is("2: a ninth", x.picture(1), FloorCurves.FULL);
        DUE.is("2: BAD comes first", x.picture(5), FloorCurves.BAD);
        DUE.is("2: nothing came", x.many(0), 8);
        DUE.is("3: a stair of the last", x.stair(7, 0, 1, 1), 1);
        DUE.is("5: drop", x.drop(), 7);
        DUE.is("5: it is gone", x.about(7, 0), FloorCurves.BAD);
        DUE.is("2: the number again", x.picture(2), 7);
        DUE.is("2: without STAIRS", x.about(7, 1), 0);
        for (int p = 7; p >= 0; p--) {
            DUE.is("5: drop", x.drop(), p);
        }
        DUE.is("5: drop of none", x.drop(), FloorCurves.NONE);
    }

    private static void stairsComeAndGo() {
        FloorCurves x = with(3);
        int[][] wrong = {{1, 0, 1, 1}, {-1, 0, 1, 1}, {HIGH, 0, 1, 1}, {0, 1, 0, 1}, {0, 1, 1, 1}, {0, -1, 1, 1},
            {0, 0, 3, 1}, {0, 2, 3, 1}, {0, 0, 1, 0}, {0, 0, 1, 5}, {0, LOW, HIGH, 1}, {0, 0, 1, LOW}};
        for (int[] s : wrong) {
            DUE.is("3: no STAIR", x.stair(s[0], s[1], s[2], s[3]), FloorCurves.BAD);
            DUE.is("4: no STAIR", x.cut(s[0], s[1], s[2], s[3]), FloorCurves.BAD);
        }
        DUE.is("4: there is none", x.cut(0, 0, 1, 1), FloorCurves.STATE);
        for (int s = 1; s <= 6; s++) {
            DUE.is("3: stair", x.stair(0, 0, 2, 1 + s % 2), s);
        }
        DUE.is("3: a seventh", x.stair(0, 0, 1, 1), FloorCurves.FULL);
        DUE.is("3: BAD comes first", x.stair(0, 0, 1, 5), FloorCurves.BAD);
        DUE.is("4: none like that", x.cut(0, 0, 2, 3), FloorCurves.STATE);
        for (int s = 5; s >= 3; s--) {
            DUE.is("4: one goes", x.cut(0, 0, 2, 2), s);
        }
        DUE.is("4: all of them are gone", x.cut(0, 0, 2, 2), FloorCurves.STATE);
        DUE.is("4: others stay", x.told(0, 2, 2), 1);
        DUE.is("30: STAIRS of all", x.many(3), 3);
        DUE.is("3: DEGREE 1 has none", with(1).stair(0, 0, 1, 1), FloorCurves.BAD);
    }

    private static void stairsAreInOrder() {
        FloorCurves x = with(4, 2, 3, 1, 0, 3, 1, 0, 1, 4, 0, 1, 2, 1, 2, 3, 0, 3, 1);
        int[][] order = {{0, 1, 2}, {0, 1, 4}, {0, 3, 1}, {0, 3, 1}, {1, 2, 3}, {2, 3, 1}};
        for (int s = 0; s < 6; s++) {
            for (int what = 0; what < 3; what++) {
                DUE.is("7: told " + s + " " + what, x.told(0, s, what), order[s][what]);
            }
        }
        int[][] wrong = {{0, 6, 0}, {0, -1, 0}, {0, 0, 3}, {0, 0, -1}, {1, 0, 0}, {-1, 0, 0}, {0, HIGH, 0}, {0, 0, LOW}};
        for (int[] w : wrong) {
            DUE.is("7: told", x.told(w[0], w[1], w[2]), FloorCurves.BAD);
        }
    }

    private static void about(FloorCurves x, int... all) {
        for (int what = 0; what < 7; what++) {
            DUE.is("6: about " + what, x.about(0, what), all[what]);
        }
        for (int what : new int[] {-1, 7, LOW, HIGH}) {
            DUE.is("6: about " + what, x.about(0, what), FloorCurves.BAD);
        }
        for (int p : new int[] {-1, 1, LOW, HIGH}) {
            DUE.is("6: about PICTURE " + p, x.about(p, 0), FloorCurves.BAD);
        }
    }

    private static void aboutPictures() {
        about(with(1), 1, 0, 1, 0, 1, 1, 1);
        about(with(2, 0, 1, 3), 2, 1, 0, 0, 1, 9, 1);
        about(with(4), 4, 0, 1, 6, 4, 1, 1);
        about(with(4, 0, 2, 1, 1, 3, 1), 4, 2, 1, 4, 2, 1, 1);
        about(with(4, 0, 3, 1, 1, 2, 2), 4, 2, 0, 4, 2, 4, 0);
        about(with(4, 2, 3, 1, 0, 1, 1, 1, 3, 1), 4, 3, 1, 3, 1, 1, 1);
        about(with(2, 0, 1, 4, 0, 1, 4, 0, 1, 4, 0, 1, 4, 0, 1, 4, 0, 1, 4), 2, 6, 0, -5, 1, 16777216, 0);
    }

    private static void outOfFloors() {
        FloorCurves x = with(3, 0, 1, 1, 1, 2, 4, 0, 2, 3);
        int[] outs = {4, 3, -7};
        for (int floor = 0; floor < 3; floor++) {
            DUE.is("8: out " + floor, x.out(0, floor), outs[floor]);
        }
        for (int floor : new int[] {-1, 3, LOW, HIGH}) {
            DUE.is("8: out " + floor, x.out(0, floor), -1000);
        }
        DUE.is("8: no such PICTURE", x.out(1, 0), -1000);
        DUE.is("8: no such PICTURE", x.out(-1, 0), -1000);
    }

    private static void spreads() {
        FloorCurves x = with(2, 0, 1, 4, 0, 1, 3);
        // 1 2 3 4 3 2 1 multiplied by 1 2 3 2 1
        long[] half = {28, 25, 18, 10, 4, 1};
        for (int k = 0; k < 6; k++) {
            DUE.is("9: spread " + k, x.spread(0, k), half[k]);
            DUE.is("9: spread " + -k, x.spread(0, -k), half[k]);
        }
        DUE.is("9: above the highest power", x.spread(0, 6), 0);
        FloorCurves all = with(2, 0, 1, 4, 0, 1, 4, 0, 1, 4, 0, 1, 4, 0, 1, 4, 0, 1, 4);
        long sum = 0;
        for (int k = -20; k <= 20; k++) {
            sum += all.spread(0, k);
        }
        DUE.is("9: their sum is MULT", sum, all.about(0, 5));
        DUE.is("9: spread 18", all.spread(0, 18), 1);
        DUE.is("9: spread -17", all.spread(0, -17), 12);
        for (int k : new int[] {-19, 19, LOW, HIGH}) {
            DUE.is("9: spread " + k, all.spread(0, k), 0);
        }
        DUE.is("9: no such PICTURE", all.spread(1, 0), FloorCurves.BAD);
        DUE.is("9: no such PICTURE", all.spread(-1, 0), FloorCurves.BAD);
    }

    private static void markings() {
        DUE.is("10: DEGREE 1", with(1).markings(0), 1);
        DUE.is("10: two FLOORS", with(2).markings(0), 3);
        DUE.is("10: three FLOORS", with(3).markings(0), 15);
        DUE.is("10: a STAIR over a FLOOR", with(3, 0, 2, 1).markings(0), 9);
        DUE.is("10: like STAIRS are alike", with(3, 0, 1, 1, 1, 2, 1, 1, 2, 1).markings(0), 1);
        DUE.is("10: unlike STAIRS", with(4, 0, 1, 1, 1, 2, 2, 2, 3, 1, 2, 3, 2).markings(0), 2);
        DUE.is("10: not RIGHT", with(2, 0, 1, 2).markings(0), FloorCurves.STATE);
        DUE.is("10: no such PICTURE", with(2).markings(1), FloorCurves.BAD);
        DUE.is("10: no such PICTURE", with(2).markings(-1), FloorCurves.BAD);
    }

    private static void between() {
        FloorCurves x = with(2);
        long[][] due = {{2, 1, 0, 0}, {0, 1, 2, 0}};
        for (int f = 0; f < 2; f++) {
            for (int n = 0; n < 4; n++) {
                DUE.is("11: between " + f + " " + n, x.between(0, f, n), due[f][n]);
            }
        }
        DUE.is("11: between high", x.between(0, 0, HIGH), 0);
        int[][] wrong = {{0, 0, -1}, {0, 0, LOW}, {0, 2, 0}, {0, -1, 0}, {1, 0, 0}, {-1, 0, 0}};
        for (int[] w : wrong) {
            DUE.is("11: between", x.between(w[0], w[1], w[2]), FloorCurves.BAD);
        }
        x.stair(0, 0, 1, 2);
        DUE.is("11: not RIGHT", x.between(0, 0, 0), FloorCurves.STATE);
        DUE.is("11: BAD comes first", x.between(0, 0, -1), FloorCurves.BAD);
    }

    private static void unlike() {
        FloorCurves x = with(4, 0, 1, 1, 1, 3, 1, 2, 3, 2);
        x.picture(4);
        addTo(x, 1, 2, 3, 2, 1, 3, 1, 0, 1, 1);
        DUE.is("12: alike", x.unlike(0, 1), FloorCurves.NONE);
        x.stair(1, 2, 3, 2);
        DUE.is("12: one more like it", x.unlike(0, 1), 2);
        x.cut(0, 1, 3, 1);
        x.stair(0, 1, 2, 1);
        DUE.is("12: to another FLOOR", x.unlike(1, 0), 1);
        x.cut(0, 0, 1, 1);
        x.stair(0, 0, 1, 2);
        DUE.is("12: of another WEIGHT", x.unlike(0, 1), 0);
        DUE.is("12: itself", x.unlike(1, 1), FloorCurves.NONE);
        x.picture(2);
        DUE.is("12: the less DEGREE", x.unlike(2, 0), 2);
        DUE.is("12: the less DEGREE", x.unlike(0, 2), 2);
        int[][] wrong = {{0, 3}, {3, 0}, {-1, 0}, {0, -1}, {3, 3}};
        for (int[] w : wrong) {
            DUE.is("12: no such PICTURE", x.unlike(w[0], w[1]), FloorCurves.BAD);
        }
    }

    private static void turned() {
        DUE.is("13: no STAIRS", with(4).turned(0), 1);
        DUE.is("13: two to one FLOOR", with(3, 0, 2, 1, 1, 2, 1).turned(0), 0);
        DUE.is("13: two from one FLOOR", with(3, 0, 2, 1, 0, 1, 1).turned(0), 1);
        DUE.is("13: in and out", with(3, 0, 1, 2, 1, 2, 1).turned(0), 1);
        DUE.is("13: no such PICTURE", with(3).turned(1), FloorCurves.BAD);
        DUE.is("13: no such PICTURE", with(3).turned(-1), FloorCurves.BAD);
    }
}
