/** Promises 20 to 26: THE TAPE, its text, TANGENT and RATIONAL. */
public final class TangentsTest {
    private static final int LOW = Integer.MIN_VALUE, HIGH = Integer.MAX_VALUE;
    private static final Due DUE = new Due("TangentsTest");

    public static void main(String[] args) {
        tape();
        texts();
        faults();
        tapeIsReadByBytes();
        whatWasToldStays();
        tangentsOfAllRows(new int[6], new int[6], 1, 0);
        tangentsOfPlainRowsAreCounts();
        refusals();
        rationals();
        DUE.close();
    }

    private static void put(FloorCurves x, String text) {
        x.end(0);
        for (int at = 0; at < text.length(); at += 8) {
            long v = 0;
            for (int i = at; i < at + 8; i++) {
                v = v << 8 | (i < text.length() ? text.charAt(i) : '?');
            }
            x.feed(v);
        }
        x.end(text.length());
    }

    private static void tape() {
        FloorCurves x = new FloorCurves();
        DUE.is("21: end of nothing", x.end(0), 0);
        DUE.is("21: more than it has", x.end(1), FloorCurves.BAD);
        for (int bytes = 8; bytes <= 80; bytes += 8) {
            DUE.is("20: feed", x.feed(0x2020202020202020L), bytes);
        }
        DUE.is("20: more than 80", x.feed(0), FloorCurves.FULL);
        DUE.is("20: nothing came", x.many(2), 80);
        DUE.is("21: below 0", x.end(-1), FloorCurves.BAD);
        DUE.is("21: below 0", x.end(LOW), FloorCurves.BAD);
        DUE.is("21: above", x.end(81), FloorCurves.BAD);
        DUE.is("21: above", x.end(HIGH), FloorCurves.BAD);
        DUE.is("21: all stay", x.end(80), 80);
        DUE.is("21: 73 stay", x.end(73), 80);
        DUE.is("20: 81 were more than 80", x.feed(0), FloorCurves.FULL);
        DUE.is("21: 72 stay", x.end(72), 73);
        DUE.is("20: just 80", x.feed(0x6131202020202020L), 80);
        DUE.is("22: it is read to its end", x.text(), 1);
        DUE.is("22: empty then", x.many(2), 0);
        DUE.is("20: feed", x.feed(-1), 8);
    }

    private static void texts() {
        FloorCurves x = new FloorCurves();
        put(x, "b1a2  b1 a 1");
        DUE.is("22: text", x.text(), 5);
        DUE.is("23: fault", x.fault(), 0);
        int[][] due = {{1, 1, 0, 0, 0}, {2, 0, 0, 0, 0}};
        for (int letter = 0; letter < 2; letter++) {
            for (int k = 1; k <= 5; k++) {
                DUE.is("25: has " + letter + " " + k, x.has(letter, k), due[letter][k - 1]);
            }
        }
        put(x, "  b   4  ");
        DUE.is("22: blanks", x.text(), 4);
        DUE.is("25: the new text alone", x.has(0, 1), 0);
        DUE.is("25: b 4", x.has(1, 4), 1);
        put(x, "a1a1a1a1a1");
        DUE.is("22: five parts", x.text(), 5);
        DUE.is("25: five", x.has(0, 1), 5);
        put(x, "b5");
        DUE.is("22: one part", x.text(), 5);
        DUE.is("25: b 5", x.has(1, 5), 1);
        put(x, "a5");
        DUE.is("22: one part", x.text(), 5);
        DUE.is("25: a 5", x.has(0, 5), 1);
        DUE.is("25: b 5", x.has(1, 5), 0);
    }

    private static void faults() {
        faultOf("", 0, 2);
        faultOf("   ", 3, 2);
        faultOf("1", 0, 2);
        faultOf("a", 1, 2);
        faultOf("a  ", 3, 2);
        faultOf("ab", 1, 2);
        faultOf("a1b", 3, 2);
        faultOf("a12", 2, 2);
        faultOf("a1 9", 3, 2);
        faultOf("a1 b ", 5, 2);
        faultOf("x", 0, 1);
        faultOf("A1", 0, 1);
        faultOf("c1", 0, 1);
        faultOf("`1", 0, 1);
        faultOf("a0", 1, 1);
        faultOf("a:", 1, 1);
        faultOf("a1\t", 2, 1);
        faultOf("a1\u0000", 2, 1);
        faultOf("a\u00b1", 1, 1);
        faultOf("a1 ?a6", 3, 1);
        faultOf("a6", 1, 3);
        faultOf("b9", 1, 3);
        faultOf("a6?", 1, 3);
        faultOf("a3 b 3", 5, 3);
        faultOf("a1b1a1b1a1b1", 11, 3);
        faultOf("b5 ba", 4, 2);
        faultOf("b5b1", 3, 3);
        faultOf("a".repeat(80), 1, 2);
        faultOf(" ".repeat(79) + "a", 80, 2);
        faultOf(" ".repeat(79) + "?", 79, 1);
    }

    private static void faultOf(String text, int place, int kind) {
        FloorCurves x = new FloorCurves();
        put(x, text);
        DUE.is("22: text '" + text + "'", x.text(), -10 - place);
        DUE.is("23: fault '" + text + "'", x.fault(), kind);
        DUE.is("22: empty then '" + text + "'", x.many(2), 0);
        DUE.is("22: nothing told '" + text + "'", x.has(0, 1), FloorCurves.STATE);
    }

    private static void tapeIsReadByBytes() {
        for (int v = 0; v < 256; v++) {
            char c = (char) v;
            boolean token = c == 'a' || c == 'b' || c >= '1' && c <= '9';
            faultOf("a" + c, c == ' ' ? 2 : 1, c == ' ' || c == 'a' || c == 'b' ? 2 : c >= '6' && c <= '9' ? 3 : token ? -1 : 1, c);
        }
    }

    private static void faultOf(String text, int place, int kind, char last) {
        if (kind > 0) {
            faultOf(text, place, kind);
            return;
        }
        FloorCurves x = new FloorCurves();
        put(x, text);
        DUE.is("22: text " + text, x.text(), last - '0');
    }

    private static void whatWasToldStays() {
        FloorCurves x = new FloorCurves();
        put(x, "b3");
        x.text();
        put(x, "b1b1?");
        DUE.is("22: a FAULT", x.text(), -14);
        DUE.is("25: what was told stays", x.has(1, 3), 1);
        DUE.is("25: what was told stays", x.has(1, 1), 0);
        DUE.is("24: what was told stays", x.tangent(0), 3);
        DUE.is("23: fault", x.fault(), 1);
        put(x, "a1");
        DUE.is("22: text", x.text(), 1);
        DUE.is("23: no FAULT now", x.fault(), 0);
    }

    /** Every A, B with a sum up to 5 is told and asked. */
    private static void tangentsOfAllRows(int[] a, int[] b, int k, int sum) {
        if (k == 6) {
            if (sum > 0) {
                tangentsOf(a, b, sum);
            }
            return;
        }
        for (a[k] = 0; sum + a[k] * k <= 5; a[k]++) {
            for (b[k] = 0; sum + (a[k] + b[k]) * k <= 5; b[k]++) {
                tangentsOfAllRows(a, b, k + 1, sum + (a[k] + b[k]) * k);
            }
            b[k] = 0;
        }
        a[k] = 0;
    }

    private static void tangentsOf(int[] a, int[] b, int d) {
        StringBuilder text = new StringBuilder();
        for (int k = 5; k >= 1; k--) {
            text.append(("b" + k).repeat(b[k])).append(("a" + k).repeat(a[k]));
        }
        FloorCurves x = new FloorCurves();
        put(x, text.toString());
        DUE.is("22: text " + text, x.text(), d);
        for (int n = 10; n >= 0; n--) {
            DUE.is("24: tangent " + n + " of " + text, x.tangent(n), Model.tangent(d, n, a.clone(), b.clone()));
        }
    }

    private static void tangentsOfPlainRowsAreCounts() {
        FloorCurves x = new FloorCurves();
        for (int d = 4; d >= 1; d--) {
            put(x, "b1".repeat(d));
            DUE.is("22: text", x.text(), d);
            for (int n = 0; n <= 6; n++) {
                DUE.is("24: tangent is COUNT " + d + " " + n, x.tangent(n), x.count(d, n));
            }
        }
    }

    private static void refusals() {
        FloorCurves x = new FloorCurves();
        DUE.is("24: nothing told", x.tangent(10), FloorCurves.STATE);
        DUE.is("25: nothing told", x.has(1, 5), FloorCurves.STATE);
        for (int told = 0; told < 2; told++) {
            for (int n : new int[] {-1, 11, LOW, HIGH}) {
                DUE.is("24: tangent " + n, x.tangent(n), FloorCurves.BAD);
                DUE.is("25: letter " + n, x.has(n, 1), FloorCurves.BAD);
                DUE.is("25: figure " + n, x.has(0, n), FloorCurves.BAD);
            }
            DUE.is("25: has 2 1", x.has(2, 1), FloorCurves.BAD);
            DUE.is("25: has 1 0", x.has(1, 0), FloorCurves.BAD);
            DUE.is("25: has 1 6", x.has(1, 6), FloorCurves.BAD);
            put(x, "a2");
            DUE.is("22: text", x.text(), 2);
        }
    }

    private static void rationals() {
        FloorCurves x = new FloorCurves();
        long[] due = {1, 1, 12, 620, 87304, 26312976, 14616808192L};
        for (int d = 7; d >= 1; d--) {
            DUE.is("26: rational " + d, x.rational(d), due[d - 1]);
        }
        for (int d : new int[] {0, 8, -1, LOW, HIGH}) {
            DUE.is("26: rational " + d, x.rational(d), FloorCurves.BAD);
        }
    }
}
