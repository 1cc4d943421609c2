import java.util.ArrayList;
import java.util.List;

/** Terms: "what is refused changes nothing (but THE TAPE, as told)": each refusal of each call, and what is seen after it. */
public final class KeptTest {
    private static final int LOW = Made.LOW, HIGH = Made.HIGH;
    private static final int BAD = FloorCurves.BAD, STATE = FloorCurves.STATE, FULL = FloorCurves.FULL, NONE = FloorCurves.NONE;
    private static final Due DUE = new Due("KeptTest");

    private static List<Call> state;
    private static List<String> before;

    public static void main(String[] args) {
        from(Made.nothing());
        refusedInAnyState(0);
        refusedByANewObject();
        from(Made.some());
        refusedInAnyState(3);
        refusedWhereThereIsSome();
        from(Made.full());
        refusedInAnyState(8);
        refusedWhereAllIsFull();
        refusedWherePicturesAloneAreNone();
        refusedWhereNothingWasTold();
        textsWithFaults();
        DUE.close();
    }

    private static void from(List<Call> run) {
        state = run;
        before = Seen.after(FloorCurves::new, run);
    }

    private static void refused(long due, String name, long... numbers) {
        Call call = Call.of(name, numbers);
        DUE.is(call.toString(), call.on(Call.run(new FloorCurves(), state)), due);
        List<Call> run = new ArrayList<>(state);
        run.add(call);
        DUE.same(call.toString(), Seen.after(FloorCurves::new, run), before);
    }

    private static void refusedInAnyState(int pictures) {
        for (int d : new int[] {LOW, -1, 0, 5, HIGH}) {
            refused(BAD, "picture", d);
            refused(BAD, "count", d, 0);
            refused(BAD, "signed", d, 0);
            refused(BAD, "spreadAll", d, 0, 0);
            refused(BAD, "listed", d, 0);
            refused(BAD, "take", d, 0, 0);
            refused(BAD, "draw", 0, 0, 0, d, 0);
        }
        for (int n : new int[] {LOW, -1, 7, HIGH}) {
            refused(BAD, "count", 4, n);
            refused(BAD, "signed", 4, n);
            refused(BAD, "spreadAll", 4, n, 0);
            refused(BAD, "listed", 4, n);
            refused(BAD, "take", 4, n, 0);
            refused(BAD, "draw", 0, 0, 0, 4, n);
        }
        for (int p : new int[] {LOW, -1, pictures, 8, HIGH}) {
            refusedOfPicture(p);
        }
        refused(BAD, "take", 4, 3, -1);
        refused(BAD, "take", 4, 3, LOW);
        refused(NONE, "take", 4, 3, 20);
        refused(NONE, "take", 4, 3, HIGH);
        refused(NONE, "take", 1, 1, 0);
        refusedOfTape();
        refusedOfSheets();
    }

    private static void refusedOfPicture(int p) {
        refused(BAD, "stair", p, 0, 1, 1);
        refused(BAD, "cut", p, 0, 1, 1);
        refused(BAD, "about", p, 0);
        refused(BAD, "told", p, 0, 0);
        refused(-1000, "out", p, 0);
        refused(BAD, "spread", p, 0);
        refused(BAD, "markings", p);
        refused(BAD, "between", p, 0, 0);
        refused(BAD, "unlike", p, 0);
        refused(BAD, "unlike", 0, p);
        refused(BAD, "turned", p);
        refused(BAD, "place", p);
    }

    private static void refusedOfTape() {
        for (int n : new int[] {LOW, -1, 81, HIGH}) {
            refused(BAD, "end", n);
        }
        for (int n : new int[] {LOW, -1, 11, HIGH}) {
            refused(BAD, "tangent", n);
            refused(BAD, "has", n, 1);
            refused(BAD, "has", 0, n);
        }
        refused(BAD, "has", 2, 1);
        refused(BAD, "has", 0, 0);
        refused(BAD, "has", 1, 6);
        for (int d : new int[] {LOW, 0, 8, HIGH}) {
            refused(BAD, "rational", d);
        }
    }

    private static void refusedOfSheets() {
        for (int k : new int[] {LOW, -1, 4, HIGH}) {
            refused(BAD, "sheet", k, 0, 1);
            refused(BAD, "lay", k, 0, 1);
            refused(BAD, "draw", k, 0, 0, 1, 0);
            refused(BAD, "many", k);
        }
        for (int lane : new int[] {LOW, -1, 3, HIGH}) {
            refused(BAD, "sheet", 0, lane, 1);
            refused(BAD, "draw", 0, lane, 0, 1, 0);
        }
        for (int k = 0; k < 4; k++) {
            refused(BAD, "sheet", k, 1, 61);
            refused(BAD, "sheet", k, 1, HIGH);
            refused(-14, "sheet", k, 1, -1);
            refused(-14, "sheet", k, 1, LOW);
        }
        refused(-11, "lay", 3, 0, 1);
        refused(-11, "draw", 3, 0, 0, 1, 0);
    }

    private static void refusedByANewObject() {
        refused(NONE, "drop");
        refused(STATE, "tangent", 0);
        refused(STATE, "has", 0, 1);
        refused(BAD, "end", 1);
        refused(NONE, "many", 1);
        refused(-11, "lay", 0, 0, 1);
        refused(-11, "draw", 0, 2, 0, 4, 6);
    }

    private static void refusedWhereThereIsSome() {
        int[][] noStairs = {{0, -1, 1, 1}, {0, 1, 1, 1}, {0, 2, 1, 1}, {0, 0, 3, 1}, {0, 0, 1, 0}, {0, 0, 1, 5}, {2, 0, 1, 1}};
        for (int[] s : noStairs) {
            refused(BAD, "stair", s[0], s[1], s[2], s[3]);
            refused(BAD, "cut", s[0], s[1], s[2], s[3]);
        }
        refused(STATE, "cut", 0, 0, 1, 2);
        refused(STATE, "cut", 0, 0, 2, 1);
        refused(STATE, "cut", 1, 0, 2, 4);
        refused(BAD, "about", 0, 7);
        refused(BAD, "told", 0, 2, 0);
        refused(BAD, "told", 0, 0, 3);
        refused(-1000, "out", 0, 3);
        refused(STATE, "markings", 1);
        refused(STATE, "between", 1, 0, 0);
        refused(BAD, "between", 0, 3, 0);
        refused(BAD, "between", 0, 0, -1);
        refused(STATE, "place", 1);
        refused(BAD, "end", 7);
        refused(-12, "lay", 0, 9, 1);
        refused(-12, "lay", 0, -1, 1);
        refused(-13, "draw", 0, 1, 0, 3, 1);
        refused(-12, "draw", 0, 0, 7, 3, 1);
        refused(-12, "draw", 0, 0, 6, 3, 2);
        refused(-20, "draw", 0, 0, 0, 1, 3);
        refused(-21, "draw", 0, 0, 0, 2, 3);
    }

    private static void refusedWhereAllIsFull() {
        refused(FULL, "picture", 1);
        refused(FULL, "stair", 0, 0, 1, 1);
        refused(FULL, "stair", 0, 0, 3, 4);
        refused(FULL, "stair", 1, 0, 1, 4);
        refused(FULL, "stair", 1, 0, 1, 1);
        refused(BAD, "stair", 1, 0, 2, 1);
        refused(STATE, "cut", 0, 0, 3, 1);
        refused(STATE, "cut", 1, 0, 1, 3);
        refused(STATE, "markings", 1);
        refused(STATE, "place", 1);
        refused(FULL, "take", 4, 0, 0);
        refused(FULL, "feed", 0);
        refused(FULL, "feed", Long.MIN_VALUE);
        refused(-12, "lay", 0, 60, 1);
        refused(-12, "lay", 2, 0, 1);
        refused(FULL, "draw", 0, 2, 0, 4, 6);
        refused(FULL, "draw", 2, 1, 0, 4, 0);
        refused(-12, "draw", 0, 2, 58, 4, 1);
        refused(-13, "draw", 0, 0, 0, 4, 0);
        refused(-20, "draw", 1, 0, 0, 4, 1);
    }

    private static void refusedWherePicturesAloneAreNone() {
        List<Call> run = Made.some();
        for (int p = 0; p < 3; p++) {
            run.add(Call.of("drop"));
        }
        from(run);
        refused(NONE, "drop");
        refused(BAD, "about", 0, 0);
        refused(BAD, "stair", 0, 0, 1, 1);
        refused(BAD, "place", 0);
        refused(-20, "draw", 0, 0, 0, 1, 1);
    }

    private static void refusedWhereNothingWasTold() {
        List<Call> run = new ArrayList<>();
        run.add(Call.of("take", 4, 3, 7));
        run.add(Call.of("feed", Made.eightBytes("a6", 0)));
        run.add(Call.of("text"));
        run.add(Call.of("feed", Made.eightBytes("b1 b2", 0)));
        run.add(Call.of("sheet", 0, 1, 4));
        from(run);
        for (int n : new int[] {0, 10}) {
            refused(STATE, "tangent", n);
        }
        for (int k : new int[] {1, 5}) {
            refused(STATE, "has", 0, k);
            refused(STATE, "has", 1, k);
        }
        refused(BAD, "tangent", 11);
        refused(BAD, "has", 2, 1);
        refused(BAD, "end", 9);
    }

    /** A text with a FAULT empties THE TAPE and tells the FAULT; all else is kept, what was told too. */
    private static void textsWithFaults() {
        String[] faulty = {"?", "a", "a6", "", "a5b1", "b4 ?"};
        int[] places = {0, 1, 1, 0, 3, 3};
        int[] kinds = {1, 2, 3, 2, 3, 1};
        for (int i = 0; i < faulty.length; i++) {
            FloorCurves x = Call.run(new FloorCurves(), Made.some());
            Made.put(x, faulty[i]);
            DUE.is("22: text " + faulty[i], x.text(), -10 - places[i]);
            DUE.is("23: its FAULT", x.fault(), kinds[i]);
            DUE.is("22: THE TAPE is empty then", x.many(2), 0);
            DUE.is("22: what was told stays", x.has(0, 1) * 100 + x.has(1, 1) * 10 + x.has(1, 2), 111);
            DUE.is("22: and no more", x.has(0, 4) + x.has(0, 5) + x.has(1, 4) + x.has(1, 5), 0);
            DUE.is("22: PICTURES stay", x.many(0), 3);
            DUE.is("22: STAIRS stay", x.many(3), 5);
            DUE.is("22: CELLS stay", x.draw(0, 0, 0, 3, 3), 3);
        }
    }
}
