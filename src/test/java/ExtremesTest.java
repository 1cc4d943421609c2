import java.util.ArrayList;
import java.util.List;
import java.util.Set;
import java.util.TreeSet;

/**
 * Every call with each pair of its numbers at the edges: the last that is taken, the first that is refused on both
 * sides, the highest and the lowest there are, and those that would look right if they wrapped around. The answer is
 * compared with the model's, in three states; and so is all that is seen after a call that may change something.
 */
public final class ExtremesTest {
    private static final Due DUE = new Due("ExtremesTest");

    private static List<Call> state;

    public static void main(String[] args) {
        for (List<Call> run : List.of(Made.nothing(), Made.some(), Made.full())) {
            state = run;
            pictures();
            allOfADegree();
            tangents();
            sheets();
        }
        DUE.close();
    }

    private static void pictures() {
        int last = (int) state.stream().filter(call -> call.toString().startsWith("picture")).count() - 1;
        int[] p = {0, last};
        int[] floor = {0, 3};
        int[] weight = {1, 4};
        changing("picture", new int[] {1, 4});
        changing("stair", p, floor, floor, weight);
        changing("cut", p, floor, floor, weight);
        changing("drop");
        asking("about", p, new int[] {0, 6});
        asking("told", p, new int[] {0, 5}, new int[] {0, 2});
        asking("out", p, floor);
        asking("spread", p, new int[] {-18, 18});
        asking("markings", p);
        asking("between", p, floor, new int[] {0, 4});
        asking("unlike", p, p);
        asking("turned", p);
        asking("place", p);
    }

    private static void allOfADegree() {
        int[] d = {1, 4};
        int[] n = {0, 6};
        asking("count", d, n);
        asking("signed", d, n);
        asking("spreadAll", d, n, new int[] {-3, 3});
        asking("listed", d, n);
        changing("take", d, n, new int[] {0, 0});
        changing("take", new int[] {4, 4}, new int[] {3, 3}, new int[] {0, 19});
    }

    private static void tangents() {
        for (long v : new long[] {0, -1, 1, Long.MIN_VALUE, Long.MAX_VALUE, 1L << 32, -1L << 32, 0x6131206232206135L}) {
            compare(Call.of("feed", v), true);
        }
        changing("end", new int[] {0, 6});
        changing("end", new int[] {0, 80});
        changing("text");
        asking("fault");
        asking("tangent", new int[] {0, 10});
        asking("has", new int[] {0, 1}, new int[] {1, 5});
        asking("rational", new int[] {1, 7});
    }

    private static void sheets() {
        int[] k = {0, 3};
        int[] lane = {0, 2};
        changing("sheet", k, lane, new int[] {0, 60});
        changing("lay", k, new int[] {0, 8}, new int[] {1, 4});
        changing("lay", k, new int[] {0, 59}, new int[] {1, 4});
        changing("draw", k, lane, new int[] {0, 6}, new int[] {1, 4}, new int[] {0, 6});
        changing("draw", new int[] {0, 0}, new int[] {2, 2}, new int[] {0, 57}, new int[] {3, 4}, new int[] {1, 6});
        asking("many", new int[] {0, 3});
    }

    private static void changing(String name, int[]... ranges) {
        eachPair(name, true, ranges);
    }

    private static void asking(String name, int[]... ranges) {
        eachPair(name, false, ranges);
    }

    /** Two numbers go over their edges; the others stand once at the lowest and once at the highest that is right. */
    private static void eachPair(String name, boolean changes, int[]... ranges) {
        Set<String> done = new TreeSet<>();
        for (int side = 0; side < 2; side++) {
            long[] numbers = new long[ranges.length];
            for (int i = 0; i < ranges.length; i++) {
                numbers[i] = ranges[i][side];
            }
            compareOnce(name, changes, numbers, done);
            for (int one = 0; one < ranges.length; one++) {
                for (int other = one; other < ranges.length; other++) {
                    overEdges(name, changes, numbers.clone(), one, other, ranges, done);
                }
            }
        }
    }

    private static void overEdges(String name, boolean changes, long[] numbers, int one, int other, int[][] ranges, Set<String> done) {
        for (int v : edges(ranges[one])) {
            for (int w : edges(ranges[other])) {
                numbers[one] = v;
                numbers[other] = w;
                compareOnce(name, changes, numbers.clone(), done);
            }
        }
    }

    private static int[] edges(int[] range) {
        int low = range[0];
        int high = range[1];
        return new int[] {low, high, low - 1, high + 1, Integer.MIN_VALUE, Integer.MAX_VALUE,
            low + 256, low - 65536, low + (1 << 30), Integer.MIN_VALUE + 1 + low};
    }

    private static void compareOnce(String name, boolean changes, long[] numbers, Set<String> done) {
        Call call = Call.of(name, numbers);
        if (done.add(call.toString())) {
            compare(call, changes);
        }
    }

    private static void compare(Call call, boolean changes) {
        long want = call.on(Call.run(new Model(), state));
        DUE.is(call + " behind " + state.size() + " calls", call.on(Call.run(new FloorCurves(), state)), want);
        if (changes) {
            List<Call> run = new ArrayList<>(state);
            run.add(call);
            DUE.same(call + " behind " + state.size() + " calls", Seen.after(FloorCurves::new, run), Seen.after(Model::new, run));
        }
    }
}
