import java.util.ArrayList;
import java.util.List;

/** Objects brought into a known state. */
final class Made {
    static final int LOW = Integer.MIN_VALUE, HIGH = Integer.MAX_VALUE;

    private Made() {
    }

    /** PICTURE 0 has this DEGREE and these STAIRS (from, to, WEIGHT). */
    static FloorCurves with(int d, int... stairs) {
        FloorCurves x = new FloorCurves();
        x.picture(d);
        addStairs(x, 0, stairs);
        return x;
    }

    static void addStairs(FloorCurves x, int p, int... stairs) {
        for (int s = 0; s + 2 < stairs.length; s += 3) {
            x.stair(p, stairs[s], stairs[s + 1], stairs[s + 2]);
        }
    }

    /** The same STAIR so many times. */
    static int[] like(int times, int i, int j, int w) {
        int[] stairs = new int[3 * times];
        for (int s = 0; s < stairs.length; s += 3) {
            stairs[s] = i;
            stairs[s + 1] = j;
            stairs[s + 2] = w;
        }
        return stairs;
    }

    /** PICTURES of DEGREE 1 until there are so many. */
    static void fillUp(FloorCurves x, int pictures) {
        for (int p = x.many(0); p < pictures; p++) {
            x.picture(1);
        }
    }

    static long eightBytes(String text, int from) {
        long v = 0;
        for (int i = from; i < from + 8; i++) {
            v = v << 8 | (i < text.length() ? text.charAt(i) : ' ');
        }
        return v;
    }

    /** THE TAPE has this text and nothing else. */
    static void put(FloorCurves x, String text) {
        x.end(0);
        for (int at = 0; at < text.length(); at += 8) {
            x.feed(eightBytes(text, at));
        }
        x.end(text.length());
    }

    static FloorCurves fed(String text) {
        FloorCurves x = new FloorCurves();
        put(x, text);
        return x;
    }

    static FloorCurves told(String text) {
        FloorCurves x = fed(text);
        x.text();
        return x;
    }

    /** SHEET 0 is of this lane and has these CELLS. */
    static FloorCurves laid(int lane, int... cells) {
        FloorCurves x = new FloorCurves();
        lay(x, 0, lane, cells);
        return x;
    }

    static void lay(FloorCurves x, int k, int lane, int... cells) {
        x.sheet(k, lane, cells.length);
        for (int i = 0; i < cells.length; i++) {
            x.lay(k, i, cells[i]);
        }
    }

    // ---- three states as runs of calls

    static List<Call> nothing() {
        return new ArrayList<>();
    }

    /** There is something of everything, and room for more; the latest text had FAULT 3. */
    static List<Call> some() {
        List<Call> run = new ArrayList<>();
        addPicture(run, 0, 3, 0, 1, 1, 1, 2, 2);
        addPicture(run, 1, 4, 0, 1, 4, 2, 3, 1, 0, 1, 4);
        addPicture(run, 2, 1);
        addText(run, "a1b2b1");
        run.add(Call.of("text"));
        addText(run, "a6");
        run.add(Call.of("text"));
        addText(run, "b1 a2 ");
        addSheet(run, 0, 0, 0, 1, 1, 1, 2, 1, 0, 2, 3);
        addSheet(run, 1, 1, 0, 1, 2, 2, 3, 4, 1);
        addSheet(run, 2, 2, 1, 2, 3);
        return run;
    }

    /** Nothing more can come: 8 PICTURES, 6 STAIRS, 80 bytes, 60 CELLS; SHEET 3 alone has nothing. */
    static List<Call> full() {
        List<Call> run = new ArrayList<>();
        addPicture(run, 0, 4, 0, 1, 1, 1, 2, 1, 1, 2, 1, 2, 3, 1, 2, 3, 1, 2, 3, 1);
        addPicture(run, 1, 2, like(6, 0, 1, 4));
        for (int p = 2; p < 8; p++) {
            addPicture(run, p, 1 + p % 4);
        }
        addText(run, "b5");
        run.add(Call.of("text"));
        addText(run, "a1" + " ".repeat(70) + "b1a1b1b1");
        addSheet(run, 0, 2, like(20, 1, 3, 2));
        run.add(Call.of("sheet", 1, 0, 60));
        run.add(Call.of("sheet", 2, 1, 0));
        return run;
    }

    private static void addPicture(List<Call> run, int p, int d, int... stairs) {
        run.add(Call.of("picture", d));
        for (int s = 0; s < stairs.length; s += 3) {
            run.add(Call.of("stair", p, stairs[s], stairs[s + 1], stairs[s + 2]));
        }
    }

    private static void addText(List<Call> run, String text) {
        for (int at = 0; at < text.length(); at += 8) {
            run.add(Call.of("feed", eightBytes(text, at)));
        }
        run.add(Call.of("end", text.length()));
    }

    private static void addSheet(List<Call> run, int k, int lane, int... cells) {
        run.add(Call.of("sheet", k, lane, cells.length));
        for (int i = 0; i < cells.length; i++) {
            run.add(Call.of("lay", k, i, cells[i]));
        }
    }
}
