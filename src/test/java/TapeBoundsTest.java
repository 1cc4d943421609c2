/** Boundary cases of Terms 2 (THE TAPE, TANGENT, RATIONAL) and of promises 20 to 26: a method for each sentence. */
public final class TapeBoundsTest {
    private static final int LOW = Made.LOW, HIGH = Made.HIGH;
    private static final int BAD = FloorCurves.BAD, STATE = FloorCurves.STATE, FULL = FloorCurves.FULL;
    private static final long BLANKS = 0x2020202020202020L;
    private static final Due DUE = new Due("TapeBoundsTest");

    public static void main(String[] args) {
        eightyBytes();
        placesFromZero();
        bytesHighestFirst();
        highestAndLowestLongs();
        bytesAboveOneHundredTwentySeven();
        feedFull();
        endKeepsTheFirst();
        endBad();
        blanksBetween();
        lettersAAndB();
        figuresOneToNine();
        oneByteEach();
        onePartAtLeast();
        noToken();
        tokenThatCanNotStandThere();
        endOfText();
        sumUpToFive();
        firstFaultMet();
        degreeOfText();
        tapeIsEmptyThen();
        whatWasToldStays();
        toldAnew();
        faultOfTheLatestText();
        tangentZeroToTen();
        tangentState();
        tangentOfDegreeOne();
        tangentOfDegreeFive();
        tangentOfNoB();
        hasBad();
        hasState();
        hasNoneToFive();
        rationalOneToSeven();
        rationalBad();
        DUE.close();
    }

    private static void right(String text, int degree) {
        FloorCurves x = Made.fed(text);
        DUE.is("22: text '" + text + "'", x.text(), degree);
        DUE.is("23: fault '" + text + "'", x.fault(), 0);
    }

    private static void wrong(String text, int place, int kind) {
        FloorCurves x = Made.fed(text);
        DUE.is("22: text '" + text + "'", x.text(), -10 - place);
        DUE.is("23: fault '" + text + "'", x.fault(), kind);
        DUE.is("22: nothing was told by '" + text + "'", x.has(0, 1), STATE);
    }

    // ---- Terms 2

    /** "THE TAPE has 80 bytes": a text may fill it to the last. */
    private static void eightyBytes() {
        right("a1" + " ".repeat(78), 1);
        right(" ".repeat(78) + "b5", 5);
        right("a" + " ".repeat(78) + "4", 4);
        right("b1" + " ".repeat(76) + "a4", 5);
        FloorCurves x = Made.fed(" ".repeat(78) + "b5");
        DUE.is("30: bytes", x.many(2), 80);
    }

    /** "places from 0": the first is 0, the last 79, the end of a whole tape 80. */
    private static void placesFromZero() {
        wrong("?" + " ".repeat(79), 0, 1);
        for (int place = 0; place < 80; place++) {
            wrong(" ".repeat(place) + "?", place, 1);
            wrong(" ".repeat(place) + "5", place, 2);
        }
        wrong("a".concat(" ".repeat(78)) + "9", 79, 3);
        wrong("a" + " ".repeat(79), 80, 2);
        wrong(" ".repeat(80), 80, 2);
        wrong(" ".repeat(79) + "a", 80, 2);
    }

    /** 20: "Eight bytes come behind THE TAPE, the highest first". */
    private static void bytesHighestFirst() {
        for (int i = 0; i < 8; i++) {
            FloorCurves x = new FloorCurves();
            DUE.is("20: feed", x.feed(BLANKS & ~(0xffL << 56 - 8 * i) | (long) '?' << 56 - 8 * i), 8);
            DUE.is("20: byte " + i, x.text(), -10 - i);
            FloorCurves behind = new FloorCurves();
            behind.feed(BLANKS);
            DUE.is("20: feed", behind.feed(BLANKS & ~(0xffL << 56 - 8 * i) | (long) '?' << 56 - 8 * i), 16);
            DUE.is("20: byte " + (8 + i), behind.text(), -18 - i);
        }
        FloorCurves x = new FloorCurves();
        x.feed(0x6131623161316231L);
        DUE.is("20: a1b1a1b1", x.text(), 4);
        DUE.is("25: a 1", x.has(0, 1), 2);
        DUE.is("25: b 1", x.has(1, 1), 2);
    }

    /** 20: the highest and the lowest long, 0 and -1: no byte of them is a TOKEN or a blank. */
    private static void highestAndLowestLongs() {
        for (long v : new long[] {Long.MAX_VALUE, Long.MIN_VALUE, 0, -1}) {
            FloorCurves x = new FloorCurves();
            DUE.is("20: feed " + v, x.feed(v), 8);
            DUE.is("20: it is on THE TAPE", x.many(2), 8);
            DUE.is("22: its first byte " + v, x.text(), -10);
            DUE.is("23: no TOKEN " + v, x.fault(), 1);
            for (int i = 1; i < 8; i++) {
                FloorCurves later = new FloorCurves();
                // The first bytes of v are blanks: so its byte i is met first.
                later.feed(BLANKS & -1L << 64 - 8 * i | v & -1L >>> 8 * i);
                DUE.is("22: its byte " + i + " " + v, later.text(), -10 - i);
                DUE.is("23: no TOKEN " + v, later.fault(), 1);
            }
        }
    }

    /** A byte has 8 bits: what is a TOKEN or a blank but for the highest is none, and takes no other byte with it. */
    private static void bytesAboveOneHundredTwentySeven() {
        for (char token : new char[] {'a', 'b', ' ', '1', '5', '9'}) {
            wrong(String.valueOf((char) (token | 128)), 0, 1);
            wrong("a" + (char) (token | 128), 1, 1);
            wrong("a1" + (char) (token | 128) + "b1", 2, 1);
            wrong("a1  b1 " + (char) (token | 128), 7, 1);
        }
        wrong("\u0080", 0, 1);
        wrong("\u00ff", 0, 1);
    }

    /** 20: "how many it has. FULL: more than 80.": 72 and eight more are 80; 73 and eight more are too many. */
    private static void feedFull() {
        for (int had = 0; had <= 80; had++) {
            FloorCurves x = Made.fed(" ".repeat(had));
            DUE.is("20: feed behind " + had, x.feed(0x6132202020202020L), had <= 72 ? had + 8 : FULL);
            DUE.is("20: bytes then " + had, x.many(2), had <= 72 ? had + 8 : had);
            DUE.is("20: it came behind " + had, x.text(), had <= 72 ? 2 : -10 - had);
        }
    }

    /** 21: "THE TAPE keeps its first n bytes: how many it had." */
    private static void endKeepsTheFirst() {
        String text = "a1b1a1b1a1??????";
        int[] due = {-10, -11, 1, -13, 2, -15, 3, -17, 4, -19, 5, -20, -20, -20, -20, -20, -20};
        for (int n = 0; n <= 16; n++) {
            FloorCurves x = Made.fed(text);
            DUE.is("21: end " + n, x.end(n), 16);
            DUE.is("21: bytes then", x.many(2), n);
            DUE.is("21: how many it had", x.end(n), n);
            DUE.is("21: what it keeps " + n, x.text(), due[n]);
        }
        FloorCurves again = Made.fed("a1??????");
        again.end(2);
        DUE.is("20: behind what it keeps", again.feed(0x6231202020202020L), 10);
        DUE.is("21: what was cut off does not come again", again.text(), 2);
    }

    /** 21: "BAD.": below 0, above what it has. */
    private static void endBad() {
        for (int had : new int[] {0, 1, 7, 8, 79, 80}) {
            FloorCurves x = Made.fed(" ".repeat(had));
            for (int n : new int[] {LOW, LOW + 1, -256, -1, had + 1, 81, 256 + had, 65536, 1 << 30, HIGH}) {
                DUE.is("21: end " + n + " of " + had, x.end(n), BAD);
            }
            DUE.is("21: nothing changed", x.many(2), had);
            DUE.is("21: all are kept", x.end(had), had);
            DUE.is("21: none is kept", x.end(0), had);
            DUE.is("21: end 0 of none", x.end(0), 0);
        }
    }

    /** "TOKENS, blanks (32) between": none, one, many; ahead and behind too; 31, 33, tab and line end are no blanks. */
    private static void blanksBetween() {
        right("a1b2", 3);
        right("a 1 b 2", 3);
        right("  a   1     b  2   ", 3);
        for (char none : new char[] {0, 9, 10, 13, 31, 33, 127, 160}) {
            wrong(none + "a1", 0, 1);
            wrong("a" + none + "1", 1, 1);
            wrong("a1" + none + "b1", 2, 1);
            wrong("a1" + none, 2, 1);
        }
    }

    /** "LETTERS a, b (one each)": '`' and c are none, nor are A and B. */
    private static void lettersAAndB() {
        right("a1", 1);
        right("b1", 1);
        for (char none : new char[] {'`', 'c', 'A', 'B', '@', 'C', '!', '"'}) {
            wrong(none + "1", 0, 1);
            wrong("a1" + none + "1", 2, 1);
        }
    }

    /** "FIGURES 1 to 9 (one each)": 0 and ':' are none. */
    private static void figuresOneToNine() {
        for (int k = 1; k <= 5; k++) {
            right("a" + k, k);
            right("b" + k, k);
        }
        for (int k = 6; k <= 9; k++) {
            wrong("a" + k, 1, 3);
            wrong("b" + k, 1, 3);
        }
        for (int k = 1; k <= 9; k++) {
            wrong(String.valueOf(k), 0, 2);
        }
        for (char none : new char[] {'0', ':', '/', '-', '+', 'q', 1, 5, 9}) {
            wrong("a" + none, 1, 1);
        }
    }

    /** "(one each)": what follows at once is the next TOKEN. */
    private static void oneByteEach() {
        wrong("a12", 2, 2);
        wrong("aa1", 1, 2);
        wrong("ab1", 1, 2);
        wrong("ba1", 1, 2);
        right("a1a1b1b1", 4);
    }

    /** "text: part { part }": one at least. */
    private static void onePartAtLeast() {
        wrong("", 0, 2);
        for (int blanks : new int[] {1, 7, 8, 79, 80}) {
            wrong(" ".repeat(blanks), blanks, 2);
        }
        right("b1", 1);
        right("b1b1b1b1b1", 5);
    }

    /** "1 no TOKEN (its first byte).": also where no TOKEN could stand, and where the text could end. */
    private static void noToken() {
        wrong("?", 0, 1);
        wrong("??", 0, 1);
        wrong("a?", 1, 1);
        wrong("a  ??", 3, 1);
        wrong("a1?", 2, 1);
        wrong("a5 ?", 3, 1);
        wrong("a1 b1 \u0000", 6, 1);
    }

    /** "2 a TOKEN that can not stand there". */
    private static void tokenThatCanNotStandThere() {
        wrong("1a", 0, 2);
        wrong("a a", 2, 2);
        wrong("b b", 2, 2);
        wrong("a1 1", 3, 2);
        wrong("a1b11", 4, 2);
        wrong("a5 9", 3, 2);
        wrong("b5b a", 4, 2);
    }

    /** "(or the end: the length)": blanks behind the last TOKEN are counted. */
    private static void endOfText() {
        wrong("a", 1, 2);
        wrong("b ", 2, 2);
        wrong("a1b", 3, 2);
        wrong("a5b", 3, 2);
        wrong("a1 b     ", 9, 2);
    }

    /** "3 a FIGURE with which the sum of all were above 5 (it).": sum 5 is right, 6 is not, however it is reached. */
    private static void sumUpToFive() {
        for (int k = 1; k <= 5; k++) {
            String start = "b" + k + "a";
            for (int more = 1; more <= 9; more++) {
                if (k + more <= 5) {
                    right(start + more, k + more);
                } else {
                    wrong(start + more, 3, 3);
                }
            }
        }
        right("a1a1a1a1a1", 5);
        wrong("a1a1a1a1a1a1", 11, 3);
        wrong("a1 b1 a1 b1 a1 b 1", 17, 3);
        wrong("a2a2a2", 5, 3);
        wrong("b4b1b1", 5, 3);
    }

    /** "the first met as it is read (a TOKEN is read when the one before has been taken)": nothing behind it is looked at. */
    private static void firstFaultMet() {
        wrong("a6?", 1, 3);
        wrong("a6a", 1, 3);
        wrong("a66", 1, 3);
        wrong("a?6", 1, 1);
        wrong("aa?", 1, 2);
        wrong("1?", 0, 2);
        wrong("?1", 0, 1);
        wrong("a5b?", 3, 1);
        wrong("a5bb6", 3, 2);
        wrong("a5b6?", 3, 3);
        wrong("a5 6", 3, 2);
    }

    // ---- Promises 22 to 26

    /** 22: "its DEGREE": "the sum of all FIGURES", 1 at least and 5 at most. */
    private static void degreeOfText() {
        right("a1", 1);
        right("b2", 2);
        right("a1b2", 3);
        right("b2b2", 4);
        right("a2b2a1", 5);
    }

    /** 22: "THE TAPE (empty then)": of a text that tells, and of one with a FAULT of each kind. */
    private static void tapeIsEmptyThen() {
        for (String text : new String[] {"a1", "b1b1b1b1b1", "?", "a", "a6", "a1" + " ".repeat(78), "?".repeat(80)}) {
            FloorCurves x = Made.fed(text);
            x.text();
            DUE.is("22: no bytes '" + text + "'", x.many(2), 0);
            DUE.is("21: it has none", x.end(0), 0);
            DUE.is("21: it has none", x.end(1), BAD);
            DUE.is("22: the next text is empty", x.text(), -10);
            DUE.is("23: its FAULT", x.fault(), 2);
            DUE.is("20: from place 0 on", x.feed(0x203f202020202020L), 8);
            DUE.is("22: from place 0 on", x.text(), -11);
        }
    }

    /** 22: "-10 less the place of its FAULT: what was told stays.", of each kind; nothing of the new text is told. */
    private static void whatWasToldStays() {
        String[] faulty = {"?", "b1b1?", "a", "b1b", "", "a1a5", "b6"};
        int[] places = {0, 4, 1, 3, 0, 3, 1};
        for (int i = 0; i < faulty.length; i++) {
            FloorCurves x = Made.told("b3a2");
            Made.put(x, faulty[i]);
            DUE.is("22: text '" + faulty[i] + "'", x.text(), -10 - places[i]);
            for (int k = 1; k <= 5; k++) {
                DUE.is("25: a " + k, x.has(0, k), k == 2 ? 1 : 0);
                DUE.is("25: b " + k, x.has(1, k), k == 3 ? 1 : 0);
            }
            FloorCurves same = Made.told("b3a2");
            for (int n = 0; n <= 10; n++) {
                DUE.is("24: tangent " + n, x.tangent(n), same.tangent(n));
            }
        }
    }

    /** 22: a text without FAULT tells A, B anew: nothing of the one before is left. */
    private static void toldAnew() {
        FloorCurves x = Made.told("b1b1a1a2");
        Made.put(x, "a5");
        DUE.is("22: text", x.text(), 5);
        for (int k = 1; k <= 5; k++) {
            DUE.is("25: a " + k, x.has(0, k), k == 5 ? 1 : 0);
            DUE.is("25: b " + k, x.has(1, k), 0);
        }
        Made.put(x, "b1");
        DUE.is("22: text", x.text(), 1);
        DUE.is("24: of DEGREE 1", x.tangent(0), 1);
        DUE.is("24: of DEGREE 1", x.tangent(1), 0);
    }

    /** 23: "The FAULT of the latest text(); 0.": 0 ahead of any text, and of a text without. */
    private static void faultOfTheLatestText() {
        FloorCurves x = new FloorCurves();
        DUE.is("23: no text yet", x.fault(), 0);
        String[] texts = {"?", "a1", "a", "a1", "a6", "a1", "a6", "?", "a"};
        int[] due = {1, 0, 2, 0, 3, 0, 3, 1, 2};
        for (int i = 0; i < texts.length; i++) {
            Made.put(x, texts[i]);
            DUE.is("23: feed and end leave it", x.fault(), i == 0 ? 0 : due[i - 1]);
            x.text();
            DUE.is("23: fault of " + texts[i], x.fault(), due[i]);
            x.tangent(0);
            x.has(0, 1);
            DUE.is("23: asking leaves it", x.fault(), due[i]);
        }
    }

    /** 24: "BAD: n not 0 to 10": ahead of STATE. */
    private static void tangentZeroToTen() {
        FloorCurves told = Made.told("b1b1b1b1b1");
        long[] due = {1, 48, 882, 7915, 36975, 90027, 109781, 65949, 26136, 6930, 945};
        for (int n = 0; n <= 10; n++) {
            DUE.is("24: tangent " + n, told.tangent(n), due[n]);
        }
        for (int n : new int[] {LOW, LOW + 1, -256, -1, 11, 256, 65546, 1 << 30, HIGH}) {
            DUE.is("24: tangent " + n, told.tangent(n), BAD);
            DUE.is("24: BAD ahead of STATE " + n, new FloorCurves().tangent(n), BAD);
        }
    }

    /** 24: "STATE: nothing was told.": of a new object, and as long as each text had a FAULT. */
    private static void tangentState() {
        FloorCurves x = new FloorCurves();
        for (String text : new String[] {"", "?", "a", "a6", "b1b1b1?"}) {
            DUE.is("24: nothing was told", x.tangent(0), STATE);
            DUE.is("24: nothing was told", x.tangent(10), STATE);
            Made.put(x, text);
            DUE.is("24: nothing was told", x.tangent(0), STATE);
            x.text();
            DUE.is("24: nothing was told", x.tangent(0), STATE);
        }
        Made.put(x, "b1");
        DUE.is("24: it is fed, not told", x.tangent(0), STATE);
        x.text();
        DUE.is("24: it was told", x.tangent(0), 1);
    }

    /** "for d 1: 1, if n is 0, else 0." */
    private static void tangentOfDegreeOne() {
        for (String text : new String[] {"a1", "b1"}) {
            FloorCurves x = Made.told(text);
            for (int n = 0; n <= 10; n++) {
                DUE.is("24: tangent " + n + " of " + text, x.tangent(n), n == 0 ? 1 : 0);
            }
        }
    }

    /** DEGREE 5 is the highest: rows of one FIGURE alone, asked for the least and the most KNOTS. */
    private static void tangentOfDegreeFive() {
        DUE.is("24: a5, 0 KNOTS", Made.told("a5").tangent(0), 1);
        DUE.is("24: b5, 0 KNOTS", Made.told("b5").tangent(0), 5);
        DUE.is("24: b5, 6 KNOTS", Made.told("b5").tangent(6), 27385);
        DUE.is("24: b5, 10 KNOTS", Made.told("b5").tangent(10), 0);
        DUE.is("24: five a1, 0 KNOTS", Made.told("a1a1a1a1a1").tangent(0), 1);
    }

    /** "over all k with B(k) above 0": where no B is told, the other sum stands alone. */
    private static void tangentOfNoB() {
        FloorCurves a2 = Made.told("a2");
        DUE.is("24: a2, 0 KNOTS", a2.tangent(0), 1);
        DUE.is("24: a2, 1 KNOT", a2.tangent(1), 0);
        FloorCurves a1a1 = Made.told("a1a1");
        DUE.is("24: a1a1, 0 KNOTS", a1a1.tangent(0), 1);
        DUE.is("24: a1a1, 1 KNOT", a1a1.tangent(1), 2);
        DUE.is("24: a1a1, 2 KNOTS", a1a1.tangent(2), 0);
        FloorCurves b2 = Made.told("b2");
        DUE.is("24: b2, 0 KNOTS", b2.tangent(0), 2);
        DUE.is("24: b2, 1 KNOT", b2.tangent(1), 0);
    }

    /** 25: "a k (letter 0), b k (1)"; "BAD: also k not 1 to 5": ahead of STATE. */
    private static void hasBad() {
        for (FloorCurves x : new FloorCurves[] {Made.told("a5"), Made.told("b5"), new FloorCurves()}) {
            for (int letter : new int[] {LOW, LOW + 1, -1, 2, 256, 65537, 1 << 30, HIGH}) {
                DUE.is("25: letter " + letter, x.has(letter, 1), BAD);
                DUE.is("25: letter " + letter, x.has(letter, 5), BAD);
            }
            for (int k : new int[] {LOW, LOW + 1, -1, 0, 6, 9, 257, 65537, (1 << 30) + 1, HIGH}) {
                DUE.is("25: a " + k, x.has(0, k), BAD);
                DUE.is("25: b " + k, x.has(1, k), BAD);
            }
        }
    }

    /** 25: "STATE likewise.": nothing was told. */
    private static void hasState() {
        FloorCurves x = Made.fed("a1b1?");
        DUE.is("25: it is fed, not told", x.has(0, 1), STATE);
        x.text();
        for (int k = 1; k <= 5; k++) {
            DUE.is("25: a " + k, x.has(0, k), STATE);
            DUE.is("25: b " + k, x.has(1, k), STATE);
        }
        Made.put(x, "a1");
        x.text();
        DUE.is("25: told, b 5 not", x.has(1, 5), 0);
    }

    /** 25: "How many": none to five. */
    private static void hasNoneToFive() {
        for (int many = 1; many <= 5; many++) {
            DUE.is("25: a 1", Made.told("a1".repeat(many)).has(0, 1), many);
            DUE.is("25: b 1", Made.told("b1".repeat(many)).has(1, 1), many);
            DUE.is("25: no b 1", Made.told("a1".repeat(many)).has(1, 1), 0);
            DUE.is("25: no a 1", Made.told("b1".repeat(many)).has(0, 1), 0);
        }
        for (int k = 1; k <= 5; k++) {
            for (int other = 1; other <= 5; other++) {
                DUE.is("25: a " + other, Made.told("a" + k).has(0, other), k == other ? 1 : 0);
                DUE.is("25: b " + other, Made.told("b" + k).has(1, other), k == other ? 1 : 0);
            }
        }
        DUE.is("25: a 2 twice", Made.told("a2b1a2").has(0, 2), 2);
    }

    /** 26, "R(1) 1; else the sum": 1 to 7, each asked first of a new object. */
    private static void rationalOneToSeven() {
        long[] due = {1, 1, 12, 620, 87304, 26312976, 14616808192L};
        for (int d = 1; d <= 7; d++) {
            FloorCurves x = new FloorCurves();
            DUE.is("26: rational " + d, x.rational(d), due[d - 1]);
            DUE.is("26: once more", x.rational(d), due[d - 1]);
            DUE.is("26: rational 1", x.rational(1), 1);
        }
    }

    /** 26: "BAD: d not 1 to 7." */
    private static void rationalBad() {
        FloorCurves x = new FloorCurves();
        for (int d : new int[] {LOW, LOW + 1, -1, 0, 8, 257, 65537, (1 << 30) + 1, HIGH}) {
            DUE.is("26: rational " + d, x.rational(d), BAD);
        }
    }
}
