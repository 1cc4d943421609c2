/** Boundary cases of Terms 1 (PICTURES) and of promises 1 to 13: a method for each sentence, told in its comment. */
public final class PictureBoundsTest {
    private static final int LOW = Made.LOW, HIGH = Made.HIGH;
    private static final int BAD = FloorCurves.BAD, STATE = FloorCurves.STATE, FULL = FloorCurves.FULL, NONE = FloorCurves.NONE;
    // Behind these a number of 8, 16 or 30 bits would look right.
    private static final int[] WRAPS = {256, 65536, 1 << 30, -256, -65536, LOW};
    private static final Due DUE = new Due("PictureBoundsTest");

    public static void main(String[] args) {
        eightPictures();
        numberedAsTheyCome();
        degreeOneToFour();
        floorsUpToDegree();
        sixStairsAtMost();
        fromLessThanTo();
        weightOneToFour();
        severalLikeOnes();
        inOrder();
        outHighestAndLowest();
        rightUpToOutOne();
        looseIsOneLessOut();
        knotsMayBeBelowZero();
        partsOneToDegree();
        multOneToHighest();
        signOddAndEven();
        spreadOfOneStair();
        spreadEnds();
        markOfAStairBetweenBoth();
        looseMarksAnywhereBehind();
        likeMarksAreAlike();
        newObject();
        pictureBadAheadOfFull();
        stairBadAheadOfFull();
        cutNoneLikeThat();
        cutBadAheadOfState();
        dropNone();
        dropTheLatest();
        aboutFirstAndLast();
        toldFirstAndLast();
        outBad();
        spreadBadIsThePictureAlone();
        markingsRefuses();
        betweenFromZeroOn();
        betweenOfTheLast();
        betweenBadAheadOfState();
        unlikeFirstFloor();
        unlikeDegrees();
        unlikeBad();
        turnedFromOutMinusOne();
        turnedBad();
        noSuchPicture();
        DUE.close();
    }

    // ---- Terms 1

    /** "A PICTURE (8 of them ..": the eighth comes by each of the three calls, the ninth by none. */
    private static void eightPictures() {
        for (int call = 0; call < 3; call++) {
            FloorCurves x = Made.laid(0, 0, 1, 1);
            Made.fillUp(x, 7);
            DUE.is("Terms: the eighth", come(x, call), 7);
            for (int again = 0; again < 3; again++) {
                DUE.is("Terms: the ninth", come(x, again), FULL);
            }
            DUE.is("Terms: there are 8", x.many(0), 8);
            DUE.is("Terms: the eighth can be asked", x.about(7, 0), call == 0 ? 3 : 2);
            DUE.is("Terms: a ninth can not", x.about(8, 0), BAD);
        }
    }

    private static int come(FloorCurves x, int call) {
        return call == 0 ? x.picture(3) : call == 1 ? x.take(2, 0, 0) : x.draw(0, 0, 0, 2, 1);
    }

    /** ".. numbered as they come)": from 0 on, by whichever call; a number that went comes again. */
    private static void numberedAsTheyCome() {
        FloorCurves x = Made.laid(0, 0, 1, 1);
        for (int p = 0; p < 8; p++) {
            DUE.is("Terms: number", come(x, p % 3), p);
        }
        x.drop();
        x.drop();
        DUE.is("Terms: number 6 again", come(x, 1), 6);
        DUE.is("Terms: number 7 again", come(x, 2), 7);
    }

    /** "a DEGREE d (1 to 4)". */
    private static void degreeOneToFour() {
        for (int d = 1; d <= 4; d++) {
            FloorCurves x = new FloorCurves();
            DUE.is("2: picture " + d, x.picture(d), 0);
            DUE.is("2: its DEGREE", x.about(0, 0), d);
            DUE.is("2: without STAIRS", x.about(0, 1), 0);
            for (int wrap : WRAPS) {
                DUE.is("2: picture " + (d + wrap), x.picture(d + wrap), BAD);
            }
        }
        for (int d : new int[] {LOW, -4, -1, 0, 5, HIGH}) {
            FloorCurves x = new FloorCurves();
            DUE.is("2: picture " + d, x.picture(d), BAD);
            DUE.is("2: nothing came", x.many(0), 0);
        }
    }

    /** "FLOORS 0 to d - 1". */
    private static void floorsUpToDegree() {
        for (int d = 1; d <= 4; d++) {
            FloorCurves x = Made.with(d);
            for (int floor = 0; floor < d; floor++) {
                DUE.is("8: out " + floor + " of " + d, x.out(0, floor), 0);
                DUE.is("11: between " + floor + " of " + d, x.between(0, floor, d + 1), 0);
            }
            for (int floor : new int[] {LOW, -1, d, 4, d + 256, d - 1 + 65536, HIGH}) {
                DUE.is("8: out " + floor + " of " + d, x.out(0, floor), -1000);
                DUE.is("11: between " + floor + " of " + d, x.between(0, floor, 0), BAD);
            }
            DUE.is("3: to the last FLOOR", x.stair(0, 0, d - 1, 1), d == 1 ? BAD : 1);
            DUE.is("3: above the last FLOOR", x.stair(0, 0, d, 1), BAD);
            DUE.is("3: from below the first FLOOR", x.stair(0, -1, d - 1, 1), BAD);
        }
    }

    /** "STAIRS (6 at most)". */
    private static void sixStairsAtMost() {
        FloorCurves x = Made.with(2);
        x.picture(2);
        for (int s = 1; s <= 6; s++) {
            DUE.is("3: stair " + s, x.stair(0, 0, 1, 1), s);
        }
        DUE.is("3: the seventh", x.stair(0, 0, 1, 1), FULL);
        DUE.is("3: nothing came", x.about(0, 1), 6);
        DUE.is("3: another PICTURE has room", x.stair(1, 0, 1, 1), 1);
        DUE.is("4: one goes", x.cut(0, 0, 1, 1), 5);
        DUE.is("3: a sixth again", x.stair(0, 0, 1, 4), 6);
        DUE.is("3: a seventh again", x.stair(0, 0, 1, 4), FULL);
        FloorCurves drawn = Made.laid(0, Made.like(6, 0, 1, 1));
        DUE.is("29: six are drawn", drawn.draw(0, 0, 0, 2, 6), 0);
        DUE.is("3: a seventh behind those", drawn.stair(0, 0, 1, 1), FULL);
        DUE.is("18: six are taken", drawn.take(4, 0, 0), 1);
        DUE.is("3: a seventh behind those", drawn.stair(1, 0, 1, 1), FULL);
        DUE.is("30: 12 in all", drawn.many(3), 12);
    }

    /** "from a FLOOR i to a FLOOR j above it (i less than j)": by stair, cut and draw. */
    private static void fromLessThanTo() {
        for (int d = 1; d <= 4; d++) {
            for (int i = -1; i <= d; i++) {
                for (int j = -1; j <= d; j++) {
                    boolean right = 0 <= i && i < j && j < d;
                    String of = " " + i + " " + j + " of " + d;
                    DUE.is("4: cut" + of, Made.with(d).cut(0, i, j, 1), right ? STATE : BAD);
                    DUE.is("29: draw" + of, Made.laid(0, i, j, 1).draw(0, 0, 0, d, 1), right ? 0 : -20);
                    FloorCurves x = Made.with(d);
                    DUE.is("3: stair" + of, x.stair(0, i, j, 1), right ? 1 : BAD);
                    DUE.is("7: from" + of, x.told(0, 0, 0), right ? i : BAD);
                    DUE.is("7: to" + of, x.told(0, 0, 1), right ? j : BAD);
                    DUE.is("4: cut then" + of, x.cut(0, i, j, 1), right ? 0 : BAD);
                }
            }
        }
        for (int wrap : WRAPS) {
            DUE.is("3: from far", Made.with(4).stair(0, 1 + wrap, 2, 1), BAD);
            DUE.is("3: to far", Made.with(4).stair(0, 1, 2 + wrap, 1), BAD);
            DUE.is("4: from far", Made.with(4, 1, 2, 1).cut(0, 1 + wrap, 2, 1), BAD);
            DUE.is("4: to far", Made.with(4, 1, 2, 1).cut(0, 1, 2 + wrap, 1), BAD);
        }
        DUE.is("3: from lowest to highest", Made.with(4).stair(0, LOW, HIGH, 1), BAD);
        DUE.is("3: to the highest", Made.with(4).stair(0, 0, HIGH, 1), BAD);
        DUE.is("3: from the lowest", Made.with(4).stair(0, LOW, 0, 1), BAD);
    }

    /** "with a WEIGHT (1 to 4)": by stair, cut and draw. */
    private static void weightOneToFour() {
        for (int w : new int[] {LOW, LOW + 1, -1, 0, 1, 2, 3, 4, 5, 257, 65537, (1 << 30) + 1, HIGH}) {
            boolean right = 1 <= w && w <= 4;
            DUE.is("4: cut of WEIGHT " + w, Made.with(2).cut(0, 0, 1, w), right ? STATE : BAD);
            DUE.is("29: draw of WEIGHT " + w, Made.laid(2, 0, 1, w).draw(0, 2, 0, 2, 1), right ? 0 : -20);
            FloorCurves x = Made.with(2);
            DUE.is("3: stair of WEIGHT " + w, x.stair(0, 0, 1, w), right ? 1 : BAD);
            DUE.is("7: its WEIGHT", x.told(0, 0, 2), right ? w : BAD);
            DUE.is("8: its OUT", x.out(0, 0), right ? w : 0);
            DUE.is("4: cut then", x.cut(0, 0, 1, w), right ? 0 : BAD);
        }
    }

    /** "there may be several like ones": all six, of each kind. */
    private static void severalLikeOnes() {
        for (int w = 1; w <= 4; w++) {
            FloorCurves x = Made.with(4, Made.like(6, 1, 3, w));
            DUE.is("3: six like ones", x.about(0, 1), 6);
            for (int s = 0; s < 6; s++) {
                DUE.is("7: each is told", x.told(0, s, 0) * 100 + x.told(0, s, 1) * 10 + x.told(0, s, 2), 130 + w);
            }
            for (int left = 5; left >= 0; left--) {
                DUE.is("4: one of them goes", x.cut(0, 1, 3, w), left);
            }
            DUE.is("4: none is left", x.cut(0, 1, 3, w), STATE);
        }
    }

    /** "STAIRS are in order by i, then j, then WEIGHT": neighbours that differ at one of the three, put in both orders. */
    private static void inOrder() {
        int[][][] pairs = {{{0, 3, 4}, {1, 2, 1}}, {{1, 3, 4}, {2, 3, 1}}, {{0, 1, 4}, {0, 2, 1}}, {{0, 2, 4}, {0, 3, 1}},
            {{1, 2, 4}, {1, 3, 1}}, {{0, 1, 1}, {0, 1, 2}}, {{2, 3, 3}, {2, 3, 4}}, {{0, 1, 1}, {2, 3, 4}}};
        for (int[][] pair : pairs) {
            for (int first = 0; first < 2; first++) {
                FloorCurves x = Made.with(4, pair[first]);
                Made.addStairs(x, 0, pair[1 - first]);
                for (int s = 0; s < 2; s++) {
                    for (int what = 0; what < 3; what++) {
                        DUE.is("7: in order " + s + " " + what, x.told(0, s, what), pair[s][what]);
                    }
                }
            }
        }
    }

    /** "OUT of a FLOOR: the WEIGHTS of STAIRS from it less those of STAIRS to it": 24 and -24 at most, 0 without. */
    private static void outHighestAndLowest() {
        FloorCurves x = Made.with(4, Made.like(6, 0, 3, 4));
        int[] due = {24, 0, 0, -24};
        for (int floor = 0; floor < 4; floor++) {
            DUE.is("8: out " + floor, x.out(0, floor), due[floor]);
        }
        DUE.is("8: from it and to it", Made.with(3, 0, 1, 4, 1, 2, 4).out(0, 1), 0);
    }

    /** "A PICTURE is RIGHT, if no OUT is above 1": OUT 1 is, OUT 2 is not, on each FLOOR. */
    private static void rightUpToOutOne() {
        for (int i = 0; i < 3; i++) {
            for (int j = i + 1; j < 4; j++) {
                for (int w = 1; w <= 4; w++) {
                    isRight(Made.with(4, i, j, w), w == 1);
                }
                isRight(Made.with(4, i, j, 1, i, j, 1), false);
                isRight(Made.with(4, i, j, 1, i, 3, 1), false);
            }
        }
        for (int w = 1; w <= 4; w++) {
            isRight(Made.with(3, 0, 1, 1, 1, 2, w), w <= 2);
            isRight(Made.with(4, 0, 1, 1, 1, 2, 2, 2, 3, w), w <= 3);
        }
        isRight(Made.with(4, 0, 3, 1, 1, 3, 1, 2, 3, 1), true);
        isRight(Made.with(1), true);
        isRight(Made.with(4), true);
    }

    private static void isRight(FloorCurves x, boolean due) {
        DUE.is("6: RIGHT", x.about(0, 2), due ? 1 : 0);
        DUE.is("10: markings", x.markings(0) > 0 ? 1 : x.markings(0), due ? 1 : STATE);
        DUE.is("11: between", Math.min(x.between(0, 0, 9), 0), due ? 0 : STATE);
        DUE.is("19: place", Math.min(x.place(0), 0), due ? 0 : STATE);
    }

    /** "LOOSE of a FLOOR is then 1 less OUT": none of OUT 1, two of OUT -1, four of OUT -3. */
    private static void looseIsOneLessOut() {
        FloorCurves x = Made.with(2, 0, 1, 1);
        DUE.is("10: one row", x.markings(0), 1);
        DUE.is("11: the STAIR's alone", x.between(0, 0, 1), 1);
        DUE.is("11: OUT -1: two", x.between(0, 1, 2), 1);
        DUE.is("11: OUT -1: not three", x.between(0, 1, 3), 0);
        FloorCurves four = Made.with(4, 0, 1, 1, 1, 2, 2, 2, 3, 3);
        DUE.is("10: one row", four.markings(0), 1);
        DUE.is("11: OUT -3: four", four.between(0, 3, 4), 1);
        DUE.is("11: OUT 0: one", Made.with(1).between(0, 0, 1), 1);
    }

    /** "KNOTS: d times d - 1 by 2, less how many STAIRS there are": 6 at most, -6 at least. */
    private static void knotsMayBeBelowZero() {
        int[] without = {0, 1, 3, 6};
        for (int d = 1; d <= 4; d++) {
            DUE.is("6: KNOTS of " + d, Made.with(d).about(0, 3), without[d - 1]);
            if (d > 1) {
                DUE.is("6: KNOTS of " + d + ", six STAIRS", Made.with(d, Made.like(6, 0, 1, 1)).about(0, 3), without[d - 1] - 6);
            }
        }
        DUE.is("6: KNOTS 0", Made.with(3, 0, 1, 1, 1, 2, 1, 1, 2, 1).about(0, 3), 0);
        DUE.is("6: KNOTS -1", Made.with(2, 0, 1, 1, 0, 1, 1).about(0, 3), -1);
    }

    /** "PARTS: FLOORS that hang together by STAIRS": from all of them down to one, over a FLOOR between too. */
    private static void partsOneToDegree() {
        for (int d = 1; d <= 4; d++) {
            DUE.is("6: PARTS without STAIRS", Made.with(d).about(0, 4), d);
            for (int i = 0; i < d; i++) {
                for (int j = i + 1; j < d; j++) {
                    DUE.is("6: one STAIR joins two", Made.with(d, i, j, 1).about(0, 4), d - 1);
                }
            }
        }
        DUE.is("6: like STAIRS hang together once", Made.with(4, Made.like(6, 1, 2, 1)).about(0, 4), 3);
        DUE.is("6: two and two", Made.with(4, 0, 3, 1, 1, 2, 1).about(0, 4), 2);
        DUE.is("6: a FLOOR between stays alone", Made.with(3, 0, 2, 1).about(0, 4), 2);
        DUE.is("6: in a round, one alone", Made.with(4, 0, 1, 1, 1, 2, 1, 0, 2, 1).about(0, 4), 2);
        DUE.is("6: from above to below", Made.with(4, 2, 3, 1, 1, 3, 1, 0, 3, 1).about(0, 4), 1);
        DUE.is("6: one behind the other", Made.with(4, 0, 3, 1, 1, 3, 1, 1, 2, 1).about(0, 4), 1);
        DUE.is("6: all from the first", Made.with(4, 0, 1, 1, 0, 2, 1, 0, 3, 1).about(0, 4), 1);
    }

    /** "MULT: the product of all WEIGHTS, each twice": 1 without STAIRS, 4 to the 12 at most. */
    private static void multOneToHighest() {
        DUE.is("6: no STAIRS", Made.with(4).about(0, 5), 1);
        DUE.is("6: WEIGHT 1", Made.with(2, Made.like(6, 0, 1, 1)).about(0, 5), 1);
        DUE.is("6: the highest", Made.with(2, Made.like(6, 0, 1, 4)).about(0, 5), 16777216);
        for (int w = 1; w <= 4; w++) {
            DUE.is("6: of one", Made.with(2, 0, 1, w).about(0, 5), w * w);
        }
    }

    /** "SIGN: 1, if all WEIGHTS are odd, else 0": 1 without STAIRS; one even WEIGHT, the first or the last, is enough. */
    private static void signOddAndEven() {
        DUE.is("6: no STAIRS", Made.with(4).about(0, 6), 1);
        for (int w = 1; w <= 4; w++) {
            DUE.is("6: SIGN of WEIGHT " + w, Made.with(2, 0, 1, w).about(0, 6), w % 2);
            DUE.is("6: the first is " + w, Made.with(4, 0, 1, w, 2, 3, 3).about(0, 6), w % 2);
            DUE.is("6: the last is " + w, Made.with(4, 0, 1, 3, 2, 3, w).about(0, 6), w % 2);
        }
    }

    /** "the sum over e from 1 - w to w - 1 of (w less e without sign) powers e": w at 0, 1 at both ends, 0 beyond. */
    private static void spreadOfOneStair() {
        for (int w = 1; w <= 4; w++) {
            FloorCurves x = Made.with(2, 0, 1, w);
            for (int k = -w - 1; k <= w + 1; k++) {
                DUE.is("9: spread " + k + " of WEIGHT " + w, x.spread(0, k), Math.max(0, w - Math.abs(k)));
            }
        }
        FloorCurves none = Made.with(3);
        DUE.is("9: no STAIRS", none.spread(0, 0), 1);
        DUE.is("9: no STAIRS", none.spread(0, 1) + none.spread(0, -1), 0);
    }

    /** "SPREAD k .. so its sum over all k is MULT": six STAIRS of WEIGHT 4 reach from -18 to 18. */
    private static void spreadEnds() {
        FloorCurves x = Made.with(2, Made.like(6, 0, 1, 4));
        long sum = 0;
        for (int k = -18; k <= 18; k++) {
            DUE.is("9: both sides are alike", x.spread(0, k), x.spread(0, -k));
            sum += x.spread(0, k);
        }
        DUE.is("9: the sum", sum, 16777216);
        DUE.is("9: the highest", x.spread(0, 18), 1);
        DUE.is("9: the lowest", x.spread(0, -18), 1);
        DUE.is("9: next to the highest", x.spread(0, 17), 12);
        for (int k : new int[] {19, -19, 18 + 256, -18 - 65536, LOW, LOW + 1, LOW + 18, HIGH, HIGH - 18}) {
            DUE.is("9: spread " + k, x.spread(0, k), 0);
        }
    }

    /** "that of a STAIR from i to j between both": behind i at once, ahead of j at last, on both sides of a FLOOR between. */
    private static void markOfAStairBetweenBoth() {
        FloorCurves x = Made.with(3, 0, 2, 1);
        long[][] due = {{5, 4, 0, 0, 0}, {3, 4, 2, 0, 0}, {0, 0, 3, 6, 0}};
        for (int f = 0; f < 3; f++) {
            for (int n = 0; n < 5; n++) {
                DUE.is("11: between " + f + " " + n, x.between(0, f, n), due[f][n]);
            }
        }
        DUE.is("10: all", x.markings(0), 9);
        FloorCurves next = Made.with(3, 1, 2, 1);
        DUE.is("11: not ahead of FLOOR 1", next.between(0, 0, 2), 0);
        DUE.is("11: FLOOR 1 is never followed by nothing", next.between(0, 1, 0), 0);
        DUE.is("11: the STAIR's alone, or the LOOSE of FLOOR 0 too", next.between(0, 1, 1) + next.between(0, 1, 2), next.markings(0));
    }

    /** "a LOOSE one of FLOOR i anywhere behind it": behind it at once, and behind the last FLOOR. */
    private static void looseMarksAnywhereBehind() {
        FloorCurves x = Made.with(2);
        DUE.is("10: both behind the last in two orders, or one between", x.markings(0), 3);
        DUE.is("11: at once", x.between(0, 0, 1), 1);
        DUE.is("11: behind the last", x.between(0, 1, 2), 2);
        DUE.is("10: four FLOORS", Made.with(4).markings(0), 105);
        DUE.is("11: all behind the last", Made.with(4).between(0, 3, 4), 24);
        DUE.is("11: each behind its own", Made.with(4).between(0, 3, 1), 15);
    }

    /** "MARKS of like STAIRS (i, j, WEIGHT), LOOSE ones of one FLOOR are alike": another WEIGHT, another FLOOR are not. */
    private static void likeMarksAreAlike() {
        DUE.is("10: like STAIRS", Made.with(3, 0, 1, 1, 1, 2, 1, 1, 2, 1).markings(0), 1);
        DUE.is("10: STAIRS of unlike WEIGHTS", Made.with(4, 0, 1, 1, 1, 2, 2, 2, 3, 1, 2, 3, 2).markings(0), 2);
        DUE.is("10: two like ones and another", Made.with(4, 0, 2, 1, 1, 2, 1, 2, 3, 1, 2, 3, 1, 2, 3, 1).markings(0), 3);
        DUE.is("10: three like ones", Made.with(4, 0, 1, 1, 1, 2, 2, 2, 3, 1, 2, 3, 1, 2, 3, 1).markings(0), 1);
        DUE.is("10: LOOSE ones of one FLOOR", Made.with(2, 0, 1, 1).markings(0), 1);
    }

    // ---- Promises 1 to 13

    /** 1: "No PICTURES; no text was told; SHEETS have nothing." */
    private static void newObject() {
        FloorCurves x = new FloorCurves();
        DUE.is("1: no PICTURES", x.many(0), 0);
        DUE.is("1: no STAIRS", x.many(3), 0);
        DUE.is("1: no PICTURE 0", x.about(0, 0), BAD);
        DUE.is("1: none goes", x.drop(), NONE);
        DUE.is("1: no bytes", x.many(2), 0);
        DUE.is("1: no FAULT", x.fault(), 0);
        for (int letter = 0; letter < 2; letter++) {
            for (int k = 1; k <= 5; k++) {
                DUE.is("1: no text was told", x.has(letter, k), STATE);
            }
        }
        for (int n = 0; n <= 10; n++) {
            DUE.is("1: no text was told", x.tangent(n), STATE);
        }
        DUE.is("1: SHEET 0 has nothing", x.many(1), NONE);
        for (int k = 0; k < 4; k++) {
            DUE.is("1: SHEET " + k + " has nothing", x.lay(k, 0, 0), -11);
            DUE.is("1: SHEET " + k + " has nothing", x.draw(k, 0, 0, 1, 0), -11);
        }
        FloorCurves other = Call.run(new FloorCurves(), Made.full());
        DUE.is("1: objects share nothing", new FloorCurves().many(0) + other.many(0), 8);
        DUE.is("1: objects share nothing", x.many(0), 0);
    }

    /** 2: "BAD; FULL.", the first that fits. */
    private static void pictureBadAheadOfFull() {
        FloorCurves x = new FloorCurves();
        Made.fillUp(x, 8);
        for (int d : new int[] {LOW, 0, 5, HIGH}) {
            DUE.is("2: picture " + d, x.picture(d), BAD);
        }
        for (int d = 1; d <= 4; d++) {
            DUE.is("2: picture " + d, x.picture(d), FULL);
        }
        DUE.is("2: a PICTURE is as it was", x.about(7, 0), 1);
        DUE.is("5: one goes", x.drop(), 7);
        DUE.is("2: there is room again", x.picture(4), 7);
    }

    /** 3: "BAD; FULL.", the first that fits: of a PICTURE with six STAIRS. */
    private static void stairBadAheadOfFull() {
        FloorCurves x = Made.with(3, Made.like(6, 0, 2, 3));
        int[][] wrong = {{-1, 0, 1, 1}, {1, 0, 1, 1}, {0, -1, 1, 1}, {0, 1, 1, 1}, {0, 2, 1, 1}, {0, 0, 3, 1}, {0, 0, 1, 0}, {0, 0, 1, 5}};
        for (int[] s : wrong) {
            DUE.is("3: BAD", x.stair(s[0], s[1], s[2], s[3]), BAD);
        }
        DUE.is("3: FULL", x.stair(0, 0, 1, 1), FULL);
        DUE.is("3: OUT is as it was", x.out(0, 0), 18);
        DUE.is("3: OUT is as it was", x.out(0, 1), 0);
        DUE.is("3: STAIRS are as they were", x.told(0, 0, 1) * 10 + x.told(0, 5, 2), 23);
    }

    /** 4: "STATE: there is none": none at all, none any more, others that are like it but for one number. */
    private static void cutNoneLikeThat() {
        FloorCurves x = Made.with(4, 0, 2, 2);
        for (int[] s : new int[][] {{0, 1, 2}, {0, 3, 2}, {1, 2, 2}, {0, 2, 1}, {0, 2, 3}, {2, 3, 2}}) {
            DUE.is("4: none like that", x.cut(0, s[0], s[1], s[2]), STATE);
        }
        DUE.is("4: it is still there", x.about(0, 1), 1);
        DUE.is("4: the last goes", x.cut(0, 0, 2, 2), 0);
        DUE.is("4: none any more", x.cut(0, 0, 2, 2), STATE);
        DUE.is("4: none below none", x.about(0, 1), 0);
        DUE.is("8: OUT is 0 again", x.out(0, 0), 0);
        DUE.is("8: OUT is 0 again", x.out(0, 2), 0);
        x.picture(4);
        x.stair(1, 0, 2, 2);
        DUE.is("4: another PICTURE has one", x.cut(0, 0, 2, 2), STATE);
    }

    /** 4: "BAD; STATE", the first that fits: what is no STAIR is BAD, there is none of it either. */
    private static void cutBadAheadOfState() {
        FloorCurves x = Made.with(2);
        for (int[] s : new int[][] {{0, 2, 1}, {1, 0, 1}, {0, 0, 1}, {-1, 0, 1}, {0, 1, 0}, {0, 1, 5}, {0, HIGH, 1}, {LOW, 1, 1}, {0, 1, LOW}}) {
            DUE.is("4: no STAIR", x.cut(0, s[0], s[1], s[2]), BAD);
        }
        DUE.is("4: STATE", x.cut(0, 0, 1, 4), STATE);
        DUE.is("4: no such PICTURE", x.cut(1, 0, 1, 1), BAD);
    }

    /** 5: "NONE." of a new object, and when all are gone. */
    private static void dropNone() {
        FloorCurves x = new FloorCurves();
        DUE.is("5: none", x.drop(), NONE);
        x.picture(1);
        DUE.is("5: the only one", x.drop(), 0);
        DUE.is("5: none", x.drop(), NONE);
        DUE.is("5: none below none", x.many(0), 0);
        DUE.is("2: number 0 again", x.picture(1), 0);
    }

    /** 5: "The latest PICTURE goes: its number." Its STAIRS go with it; others stay. */
    private static void dropTheLatest() {
        FloorCurves x = Made.with(3, 0, 1, 1);
        x.picture(4);
        Made.addStairs(x, 1, Made.like(6, 0, 3, 4));
        DUE.is("5: drop", x.drop(), 1);
        DUE.is("5: it is gone", x.about(1, 0), BAD);
        DUE.is("5: its STAIRS too", x.many(3), 1);
        DUE.is("5: the other stays", x.about(0, 0) * 10 + x.about(0, 1), 31);
        DUE.is("2: the number again", x.picture(4), 1);
        DUE.is("2: without STAIRS", x.about(1, 1), 0);
        DUE.is("2: without OUT", x.out(1, 0), 0);
        DUE.is("2: STAIRS have room", x.stair(1, 0, 1, 1), 1);
    }

    /** 6: "0 its DEGREE, .. 6 SIGN. BAD." */
    private static void aboutFirstAndLast() {
        FloorCurves x = Made.with(4, 0, 1, 3);
        int[] due = {4, 1, 0, 5, 3, 9, 1};
        for (int what = 0; what <= 6; what++) {
            DUE.is("6: about " + what, x.about(0, what), due[what]);
            for (int wrap : WRAPS) {
                DUE.is("6: about " + (what + wrap), x.about(0, what + wrap), BAD);
            }
        }
        for (int what : new int[] {LOW, -1, 7, HIGH}) {
            DUE.is("6: about " + what, x.about(0, what), BAD);
        }
    }

    /** 7: "Of STAIR s in order: 0 from, 1 to, 2 its WEIGHT. BAD." */
    private static void toldFirstAndLast() {
        FloorCurves none = Made.with(4);
        DUE.is("7: no STAIR 0", none.told(0, 0, 0), BAD);
        FloorCurves x = Made.with(4);
        for (int s = 0; s < 6; s++) {
            DUE.is("7: no STAIR yet", x.told(0, s, 2), BAD);
            x.stair(0, 0, 1, 2);
            DUE.is("7: the last one", x.told(0, s, 2), 2);
            DUE.is("7: behind the last", x.told(0, s + 1, 2), BAD);
        }
        for (int s : new int[] {LOW, -1, 6, 256, 65536, 1 << 30, HIGH}) {
            DUE.is("7: STAIR " + s, x.told(0, s, 0), BAD);
        }
        for (int what : new int[] {LOW, -1, 3, 256, HIGH}) {
            DUE.is("7: what " + what, x.told(0, 0, what), BAD);
        }
        x.cut(0, 0, 1, 2);
        DUE.is("7: one fewer", x.told(0, 5, 0), BAD);
    }

    /** 8: "BAD -1000.": not -1, which may be an OUT. */
    private static void outBad() {
        FloorCurves x = Made.with(2, 0, 1, 1);
        DUE.is("8: OUT -1", x.out(0, 1), -1);
        for (int floor : new int[] {LOW, -1, 2, HIGH}) {
            DUE.is("8: no such FLOOR " + floor, x.out(0, floor), -1000);
        }
        for (int p : new int[] {LOW, -1, 1, HIGH}) {
            DUE.is("8: no such PICTURE " + p, x.out(p, 0), -1000);
        }
    }

    /** 9: "BAD: no such PICTURE.": any k is taken, and a PICTURE that is not RIGHT too. */
    private static void spreadBadIsThePictureAlone() {
        FloorCurves x = Made.with(2, 0, 1, 2);
        DUE.is("9: not RIGHT", x.about(0, 2), 0);
        DUE.is("9: not RIGHT", x.spread(0, 0), 2);
        DUE.is("9: the lowest k", x.spread(0, LOW), 0);
        DUE.is("9: the highest k", x.spread(0, HIGH), 0);
        for (int p : new int[] {LOW, -1, 1, 8, HIGH}) {
            DUE.is("9: no such PICTURE " + p, x.spread(p, 0), BAD);
        }
    }

    /** 10: "BAD; STATE: it is not RIGHT." */
    private static void markingsRefuses() {
        FloorCurves x = Made.with(3, 0, 1, 1, 1, 2, 2);
        DUE.is("10: OUT 1 on two FLOORS", x.markings(0), 1);
        x.stair(0, 0, 2, 1);
        DUE.is("10: OUT 2", x.markings(0), STATE);
        x.cut(0, 0, 2, 1);
        DUE.is("10: RIGHT again", x.markings(0), 1);
        for (int p : new int[] {LOW, -1, 1, HIGH}) {
            DUE.is("10: no such PICTURE " + p, x.markings(p), BAD);
        }
    }

    /** 11: "just n (from 0 on) MARKS behind FLOOR f and ahead of the next one"; "BAD: also n below 0". */
    private static void betweenFromZeroOn() {
        FloorCurves x = Made.with(4, 0, 1, 1);
        for (int f = 0; f < 4; f++) {
            long sum = 0;
            for (int n = 0; n <= 5; n++) {
                sum += x.between(0, f, n);
            }
            DUE.is("11: all n together", sum, x.markings(0));
            for (int n : new int[] {6, 256, 65536, 1 << 30, HIGH}) {
                DUE.is("11: more than there are " + n, x.between(0, f, n), 0);
            }
            for (int n : new int[] {-1, -256, LOW, LOW + 1}) {
                DUE.is("11: below 0 " + n, x.between(0, f, n), BAD);
            }
        }
        DUE.is("11: n 0 is taken", Made.with(2).between(0, 0, 0), 2);
    }

    /** 11: "(of the last: behind it)". */
    private static void betweenOfTheLast() {
        DUE.is("11: the only FLOOR", Made.with(1).between(0, 0, 1), 1);
        DUE.is("11: the only FLOOR", Made.with(1).between(0, 0, 0), 0);
        DUE.is("11: the last of two", Made.with(2).between(0, 1, 1), 1);
        DUE.is("11: the last of two", Made.with(2).between(0, 1, 2), 2);
        DUE.is("11: the last of four", Made.with(4, 0, 1, 1, 1, 2, 1, 1, 2, 1, 2, 3, 1, 2, 3, 1, 2, 3, 1).between(0, 3, 4), 1);
        DUE.is("11: behind the last there is none", Made.with(2).between(0, 2, 0), BAD);
    }

    /** 11: "BAD ..; STATE likewise.", the first that fits: of a PICTURE that is not RIGHT. */
    private static void betweenBadAheadOfState() {
        FloorCurves x = Made.with(2, 0, 1, 2);
        DUE.is("11: STATE", x.between(0, 0, 0), STATE);
        DUE.is("11: STATE", x.between(0, 1, HIGH), STATE);
        DUE.is("11: n below 0", x.between(0, 0, -1), BAD);
        DUE.is("11: no such FLOOR", x.between(0, 2, 0), BAD);
        DUE.is("11: no such FLOOR", x.between(0, -1, 0), BAD);
        DUE.is("11: no such PICTURE", x.between(1, 0, 0), BAD);
    }

    /** 12: "The first FLOOR from which two PICTURES of one DEGREE have unlike STAIRS (NONE: there is none)". */
    private static void unlikeFirstFloor() {
        for (int d = 1; d <= 4; d++) {
            DUE.is("12: both without STAIRS", unlike(Made.with(d), d), NONE);
            for (int i = 0; i < d - 1; i++) {
                for (int w = 1; w <= 4; w++) {
                    DUE.is("12: one has a STAIR", unlike(Made.with(d, i, d - 1, w), d), i);
                    DUE.is("12: alike", unlike(Made.with(d, i, d - 1, w), d, i, d - 1, w), NONE);
                    DUE.is("12: of another WEIGHT", unlike(Made.with(d, i, d - 1, w), d, i, d - 1, 1 + w % 4), i);
                    DUE.is("12: one more", unlike(Made.with(d, i, d - 1, w), d, i, d - 1, w, i, d - 1, w), i);
                }
            }
        }
        DUE.is("12: to another FLOOR", unlike(Made.with(4, 1, 2, 1), 4, 1, 3, 1), 1);
        DUE.is("12: from another FLOOR: the first", unlike(Made.with(4, 2, 3, 1), 4, 1, 3, 1), 1);
        DUE.is("12: the first of three", unlike(Made.with(4, 0, 1, 1, 1, 2, 1, 2, 3, 1), 4), 0);
        DUE.is("12: put in another order", unlike(Made.with(3, 0, 1, 1, 1, 2, 1), 3, 1, 2, 1, 0, 1, 1), NONE);
        DUE.is("12: itself", Made.with(2, 0, 1, 4).unlike(0, 0), NONE);
    }

    /** Asked both ways, which must answer alike. */
    private static int unlike(FloorCurves x, int d, int... stairs) {
        x.picture(d);
        Made.addStairs(x, 1, stairs);
        DUE.is("12: the other way round", x.unlike(1, 0), x.unlike(0, 1));
        return x.unlike(0, 1);
    }

    /** 12: "of unlike DEGREES: the less DEGREE.", whatever STAIRS they have. */
    private static void unlikeDegrees() {
        for (int d = 1; d <= 4; d++) {
            for (int e = 1; e <= 4; e++) {
                if (d != e) {
                    DUE.is("12: DEGREES " + d + " " + e, unlike(Made.with(d), e), Math.min(d, e));
                }
            }
        }
        DUE.is("12: with like STAIRS", unlike(Made.with(3, 0, 1, 1), 4, 0, 1, 1), 3);
        DUE.is("12: with unlike STAIRS", unlike(Made.with(2, 0, 1, 1), 4, 0, 1, 2), 2);
    }

    /** 12: "BAD.": of either. */
    private static void unlikeBad() {
        FloorCurves x = Made.with(2);
        for (int p : new int[] {LOW, -1, 1, 7, 8, 256, HIGH}) {
            DUE.is("12: the first is none", x.unlike(p, 0), BAD);
            DUE.is("12: the second is none", x.unlike(0, p), BAD);
            DUE.is("12: both are none", x.unlike(p, p), BAD);
        }
    }

    /** 13: turned over, OUT -1 is RIGHT and OUT -2 is not, on each FLOOR; OUT above 1 does no harm. */
    private static void turnedFromOutMinusOne() {
        for (int j = 1; j < 4; j++) {
            for (int i = 0; i < j; i++) {
                for (int w = 1; w <= 4; w++) {
                    DUE.is("13: OUT " + -w, Made.with(4, i, j, w).turned(0), w == 1 ? 1 : 0);
                }
                DUE.is("13: two STAIRS to it", Made.with(4, i, j, 1, 0, j, 1).turned(0), 0);
            }
        }
        DUE.is("13: OUT 4 below", Made.with(3, 0, 1, 4, 1, 2, 3).turned(0), 0);
        DUE.is("13: OUT 2 below, -1 and -1", Made.with(3, 0, 1, 2, 1, 2, 1).turned(0), 1);
        DUE.is("13: OUT 3 below, -1 each", Made.with(4, 0, 1, 1, 0, 2, 1, 0, 3, 1).turned(0), 1);
        DUE.is("13: one FLOOR", Made.with(1).turned(0), 1);
    }

    /** 13: "BAD." */
    private static void turnedBad() {
        FloorCurves x = Made.with(2);
        for (int p : new int[] {LOW, -1, 1, 8, HIGH}) {
            DUE.is("13: no such PICTURE " + p, x.turned(p), BAD);
        }
    }

    /** Terms: "BAD -1 (.. there is no such PICTURE ..": the last number is taken and the next is refused, from 1 PICTURE to 8. */
    private static void noSuchPicture() {
        FloorCurves x = new FloorCurves();
        for (int many = 1; many <= 8; many++) {
            x.picture(2);
            DUE.is("6: the last", x.about(many - 1, 0), 2);
            DUE.is("6: behind the last", x.about(many, 0), BAD);
            DUE.is("3: behind the last", x.stair(many, 0, 1, 1), BAD);
            DUE.is("4: behind the last", x.cut(many, 0, 1, 1), BAD);
            DUE.is("7: behind the last", x.told(many, 0, 0), BAD);
            DUE.is("8: behind the last", x.out(many, 0), -1000);
            DUE.is("9: behind the last", x.spread(many, 0), BAD);
            DUE.is("10: behind the last", x.markings(many), BAD);
            DUE.is("11: behind the last", x.between(many, 0, 0), BAD);
            DUE.is("12: behind the last", x.unlike(many, many - 1), BAD);
            DUE.is("13: behind the last", x.turned(many), BAD);
            DUE.is("19: behind the last", x.place(many), BAD);
        }
        for (int p : new int[] {LOW, LOW + 7, -8, -1, 8, 256, 65536, 1 << 29, 1 << 30, HIGH}) {
            DUE.is("3: PICTURE " + p, x.stair(p, 0, 1, 1), BAD);
            DUE.is("6: PICTURE " + p, x.about(p, 0), BAD);
        }
        DUE.is("3: nothing came", x.many(3), 0);
    }
}
