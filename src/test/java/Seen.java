import java.util.ArrayList;
import java.util.List;
import java.util.function.Supplier;

/** All that can be seen of a state. To see THE TAPE or a SHEET uses the object up, so each look makes the state anew. */
final class Seen {
    private final List<String> rows = new ArrayList<>();

    private Seen() {
    }

    /** What is seen after these calls on what the maker makes (the class or the model). */
    static List<String> after(Supplier<?> maker, List<Call> run) {
        Seen seen = new Seen();
        seen.pictures(Call.run(maker.get(), run));
        seen.tape(Call.run(maker.get(), run));
        for (int k = 0; k < 4; k++) {
            seen.sheet(Call.run(maker.get(), run), k);
        }
        return seen.rows;
    }

    private long ask(Object x, String name, long... numbers) {
        Call call = Call.of(name, numbers);
        long answer = call.on(x);
        rows.add(call + " " + answer);
        return answer;
    }

    private void pictures(Object x) {
        for (int what = 0; what < 4; what++) {
            ask(x, "many", what);
        }
        for (int p = 0; p < 8; p++) {
            ask(x, "about", p, 0);
            long stairs = ask(x, "about", p, 1);
            for (int s = 0; s < stairs; s++) {
                for (int what = 0; what < 3; what++) {
                    ask(x, "told", p, s, what);
                }
            }
        }
    }

    private void tape(Object x) {
        told(x);
        ask(x, "text");
        told(x);
        ask(x, "many", 2);
    }

    private void told(Object x) {
        ask(x, "fault");
        for (int letter = 0; letter < 2; letter++) {
            for (int k = 1; k <= 5; k++) {
                ask(x, "has", letter, k);
            }
        }
        for (int n = 0; n <= 10; n++) {
            ask(x, "tangent", n);
        }
    }

    private void sheet(Object x, int k) {
        while (Call.of("drop").on(x) > 0) {
            continue;
        }
        for (int lane = 0; lane < 3; lane++) {
            if (ask(x, "draw", k, lane, 0, 1, 0) == 0) {
                ask(x, "drop");
                cells(x, k, lane);
            }
        }
        for (int i = -1; i <= 60; i++) {
            ask(x, "lay", k, i, 0);
        }
    }

    private void cells(Object x, int k, int lane) {
        for (int f = 0; f < 60; f += 3) {
            if (ask(x, "draw", k, lane, f, 4, 1) == 0) {
                for (int what = 0; what < 3; what++) {
                    ask(x, "told", 0, 0, what);
                }
                ask(x, "drop");
            }
        }
    }
}
