import java.util.ArrayList;
import java.util.Arrays;
import java.util.HashMap;
import java.util.List;
import java.util.Map;
import java.util.TreeMap;

/** The document read once more, by plain search and without any thrift: what the class is compared with. */
final class Model {
    private static final Map<Integer, List<Pic>> LISTED = new HashMap<>();
    private static final Map<String, Long> TANGENTS = new HashMap<>();

    /** A PICTURE as a sorted list of STAIRS {from, to, WEIGHT}. */
    static final class Pic {
        final int d;
        final List<int[]> stairs = new ArrayList<>();

        Pic(int d) {
            this.d = d;
        }

        void add(int i, int j, int w) {
            stairs.add(new int[] {i, j, w});
            stairs.sort(Arrays::compare);
        }

        int out(int floor) {
            int sum = 0;
            for (int[] s : stairs) {
                sum += s[0] == floor ? s[2] : 0;
                sum -= s[1] == floor ? s[2] : 0;
            }
            return sum;
        }

        boolean right() {
            for (int f = 0; f < d; f++) {
                if (out(f) > 1) {
                    return false;
                }
            }
            return true;
        }

        int knots() {
            return d * (d - 1) / 2 - stairs.size();
        }

        int parts() {
            int[] name = new int[d];
            for (int f = 0; f < d; f++) {
                name[f] = f;
            }
            int parts = d;
            for (int[] s : stairs) {
                int one = name[s[0]];
                int other = name[s[1]];
                if (one != other) {
                    parts--;
                    for (int f = 0; f < d; f++) {
                        name[f] = name[f] == other ? one : name[f];
                    }
                }
            }
            return parts;
        }

        int mult() {
            int product = 1;
            for (int[] s : stairs) {
                product *= s[2] * s[2];
            }
            return product;
        }

        int sign() {
            for (int[] s : stairs) {
                if (s[2] % 2 == 0) {
                    return 0;
                }
            }
            return 1;
        }

        Map<Integer, Long> powers() {
            Map<Integer, Long> row = new TreeMap<>();
            row.put(0, 1L);
            for (int[] s : stairs) {
                Map<Integer, Long> next = new TreeMap<>();
                for (Map.Entry<Integer, Long> at : row.entrySet()) {
                    for (int e = 1 - s[2]; e <= s[2] - 1; e++) {
                        next.merge(at.getKey() + e, at.getValue() * (s[2] - Math.abs(e)), Long::sum);
                    }
                }
                row = next;
            }
            return row;
        }

        long spread(int k) {
            return powers().getOrDefault(k, 0L);
        }

        Pic turnedOver() {
            Pic over = new Pic(d);
            for (int[] s : stairs) {
                over.add(d - 1 - s[1], d - 1 - s[0], s[2]);
            }
            return over;
        }

        List<String> from(int floor) {
            List<String> told = new ArrayList<>();
            for (int[] s : stairs) {
                if (s[0] == floor) {
                    told.add(Arrays.toString(s));
                }
            }
            return told;
        }

        int[] amounts() {
            int[] row = new int[64];
            for (int[] s : stairs) {
                row[s[0] * 16 + s[1] * 4 + s[2] - 1]++;
            }
            return row;
        }

        /** Every row of FLOORS and MARKS is written out, one thing after the other. */
        long markings(int gap, int wanted) {
            Map<String, int[]> kinds = new TreeMap<>();
            for (int[] s : stairs) {
                kinds.computeIfAbsent(Arrays.toString(s), key -> new int[] {s[0], s[1], 0})[2]++;
            }
            for (int f = 0; f < d; f++) {
                kinds.put("loose " + f, new int[] {f, d, 1 - out(f)});
            }
            return rows(new ArrayList<>(kinds.values()), 0, new int[d], gap, wanted);
        }

        private long rows(List<int[]> kinds, int floors, int[] behind, int gap, int wanted) {
            long sum = 0;
            boolean done = floors == d;
            boolean mayBuild = floors < d;
            for (int[] kind : kinds) {
                done &= kind[2] == 0;
                mayBuild &= kind[1] != floors || kind[2] == 0;
                if (kind[2] > 0 && kind[0] < floors && floors <= kind[1]) {
                    kind[2]--;
                    behind[floors - 1]++;
                    sum += rows(kinds, floors, behind, gap, wanted);
                    behind[floors - 1]--;
                    kind[2]++;
                }
            }
            if (mayBuild) {
                sum += rows(kinds, floors + 1, behind, gap, wanted);
            }
            return done && (gap < 0 || behind[gap] == wanted) ? sum + 1 : sum;
        }
    }

    // ---- all of a degree

    static List<Pic> listOf(int d, int n) {
        return LISTED.computeIfAbsent(d * 10 + n, key -> search(d, d * (d - 1) / 2 - n));
    }

    private static List<Pic> search(int d, int stairs) {
        List<Pic> found = new ArrayList<>();
        if (stairs >= 0) {
            choose(new Pic(d), 0, stairs, found);
        }
        found.sort((one, other) -> Arrays.compare(one.amounts(), other.amounts()));
        return found;
    }

    private static void choose(Pic made, int code, int left, List<Pic> found) {
        if (left == 0) {
            if (made.right()) {
                Pic kept = new Pic(made.d);
                for (int[] s : made.stairs) {
                    kept.add(s[0], s[1], s[2]);
                }
                found.add(kept);
            }
            return;
        }
        for (int next = code; next < 64; next++) {
            int[] s = {next / 16, next / 4 % 4, next % 4 + 1};
            if (s[0] < s[1] && s[1] < made.d) {
                made.stairs.add(s);
                choose(made, next, left - 1, found);
                made.stairs.remove(made.stairs.size() - 1);
            }
        }
    }

    // ---- tangents and splits

    static long choose(int n, int k) {
        return k < 0 || k > n ? 0 : k == 0 ? 1 : choose(n - 1, k - 1) + choose(n - 1, k);
    }

    /** T(d, n, A, B) word by word; rows count from place 1. */
    static long tangent(int d, int n, int[] a, int[] b) {
        if (n < 0) {
            return 0;
        }
        if (d == 1) {
            return n == 0 ? 1 : 0;
        }
        String name = d + "/" + n + Arrays.toString(a) + Arrays.toString(b);
        Long known = TANGENTS.get(name);
        if (known != null) {
            return known;
        }
        long sum = 0;
        for (int k = 1; k <= 5; k++) {
            if (b[k] > 0) {
                int[] more = a.clone();
                int[] less = b.clone();
                more[k]++;
                less[k]--;
                sum += k * tangent(d, n, more, less);
            }
        }
        sum += splits(d, n, a, b, new int[6], new int[6], 1);
        TANGENTS.put(name, sum);
        return sum;
    }

    private static long splits(int d, int n, int[] a, int[] b, int[] a2, int[] b2, int k) {
        if (k == 6) {
            return oneSplit(d, n, a, b, a2.clone(), b2.clone());
        }
        long sum = 0;
        for (int i = 0; i <= a[k]; i++) {
            for (int j = b[k]; j <= 5; j++) {
                a2[k] = i;
                b2[k] = j;
                sum += splits(d, n, a, b, a2, b2, k + 1);
            }
        }
        return sum;
    }

    private static long oneSplit(int d, int n, int[] a, int[] b, int[] a2, int[] b2) {
        int sum = 0;
        int m = 0;
        long times = 1;
        for (int k = 1; k <= 5; k++) {
            sum += k * (a2[k] + b2[k]);
            m += b2[k] - b[k];
            times *= Math.round(Math.pow(k, b2[k] - b[k])) * choose(a[k], a2[k]) * choose(b2[k], b[k]);
        }
        return sum != d - 1 ? 0 : times * tangent(d - 1, n - (d - 1) + m, a2, b2);
    }

    static long splitCount(int d) {
        if (d == 1) {
            return 1;
        }
        long sum = 0;
        for (int a = 1; a < d; a++) {
            int b = d - a;
            sum += splitCount(a) * splitCount(b) * a * a * b
                * (b * choose(3 * d - 4, 3 * a - 2) - a * choose(3 * d - 4, 3 * a - 1));
        }
        return sum;
    }

    // ---- the state and the calls

    private final List<Pic> pictures = new ArrayList<>();
    private final StringBuilder tape = new StringBuilder();
    private int[] a;
    private int[] b;
    private int latestFault;
    private final int[][] sheets = new int[4][];
    private final int[] lanes = new int[4];

    private static final int BAD = -1, STATE = -2, FULL = -3, NONE = -4;

    private Pic at(long p) {
        return p < 0 || p >= pictures.size() ? null : pictures.get((int) p);
    }

    private static boolean isStair(Pic pic, int i, int j, int w) {
        return 0 <= i && i < j && j < pic.d && 1 <= w && w <= 4;
    }

    private int come(Pic pic) {
        if (pictures.size() == 8) {
            return FULL;
        }
        pictures.add(pic);
        return pictures.size() - 1;
    }

    int picture(int d) {
        return d < 1 || d > 4 ? BAD : come(new Pic(d));
    }

    int stair(int p, int i, int j, int w) {
        Pic pic = at(p);
        if (pic == null || !isStair(pic, i, j, w)) {
            return BAD;
        }
        if (pic.stairs.size() == 6) {
            return FULL;
        }
        pic.add(i, j, w);
        return pic.stairs.size();
    }

    int cut(int p, int i, int j, int w) {
        Pic pic = at(p);
        if (pic == null || !isStair(pic, i, j, w)) {
            return BAD;
        }
        for (int s = 0; s < pic.stairs.size(); s++) {
            if (Arrays.equals(pic.stairs.get(s), new int[] {i, j, w})) {
                pic.stairs.remove(s);
                return pic.stairs.size();
            }
        }
        return STATE;
    }

    int drop() {
        if (pictures.isEmpty()) {
            return NONE;
        }
        pictures.remove(pictures.size() - 1);
        return pictures.size();
    }

    int about(int p, int what) {
        Pic pic = at(p);
        if (pic == null || what < 0 || what > 6) {
            return BAD;
        }
        int[] all = {pic.d, pic.stairs.size(), pic.right() ? 1 : 0, pic.knots(), pic.parts(), pic.mult(), pic.sign()};
        return all[what];
    }

    int told(int p, int s, int what) {
        Pic pic = at(p);
        if (pic == null || s < 0 || s >= pic.stairs.size() || what < 0 || what > 2) {
            return BAD;
        }
        return pic.stairs.get(s)[what];
    }

    int out(int p, int floor) {
        Pic pic = at(p);
        return pic == null || floor < 0 || floor >= pic.d ? -1000 : pic.out(floor);
    }

    long spread(int p, int k) {
        Pic pic = at(p);
        return pic == null ? BAD : pic.spread(k);
    }

    long markings(int p) {
        Pic pic = at(p);
        return pic == null ? BAD : !pic.right() ? STATE : pic.markings(-1, 0);
    }

    long between(int p, int f, int n) {
        Pic pic = at(p);
        if (pic == null || f < 0 || f >= pic.d || n < 0) {
            return BAD;
        }
        return !pic.right() ? STATE : pic.markings(f, n);
    }

    int unlike(int p, int q) {
        Pic one = at(p);
        Pic other = at(q);
        if (one == null || other == null) {
            return BAD;
        }
        if (one.d != other.d) {
            return Math.min(one.d, other.d);
        }
        for (int f = 0; f < one.d; f++) {
            if (!one.from(f).equals(other.from(f))) {
                return f;
            }
        }
        return NONE;
    }

    int turned(int p) {
        Pic pic = at(p);
        return pic == null ? BAD : pic.turnedOver().right() ? 1 : 0;
    }

    private static boolean isBad(int d, int n) {
        return d < 1 || d > 4 || n < 0 || n > 6;
    }

    long count(int d, int n) {
        return isBad(d, n) ? BAD : listOf(d, n).stream().mapToLong(pic -> pic.mult() * pic.markings(-1, 0)).sum();
    }

    long signed(int d, int n) {
        return isBad(d, n) ? BAD : listOf(d, n).stream().mapToLong(pic -> pic.sign() * pic.markings(-1, 0)).sum();
    }

    long spreadAll(int d, int n, int k) {
        return isBad(d, n) ? BAD : listOf(d, n).stream().mapToLong(pic -> pic.spread(k) * pic.markings(-1, 0)).sum();
    }

    int listed(int d, int n) {
        return isBad(d, n) ? BAD : listOf(d, n).size();
    }

    int take(int d, int n, int i) {
        if (isBad(d, n) || i < 0) {
            return BAD;
        }
        if (i >= listOf(d, n).size()) {
            return NONE;
        }
        Pic copy = new Pic(d);
        for (int[] s : listOf(d, n).get(i).stairs) {
            copy.add(s[0], s[1], s[2]);
        }
        return come(copy);
    }

    int place(int p) {
        Pic pic = at(p);
        if (pic == null) {
            return BAD;
        }
        if (!pic.right()) {
            return STATE;
        }
        List<Pic> all = listOf(pic.d, pic.knots());
        for (int i = 0; i < all.size(); i++) {
            if (Arrays.equals(all.get(i).amounts(), pic.amounts())) {
                return i;
            }
        }
        throw new IllegalStateException("a RIGHT PICTURE is not listed");
    }

    int feed(long v) {
        if (tape.length() + 8 > 80) {
            return FULL;
        }
        for (int shift = 56; shift >= 0; shift -= 8) {
            tape.append((char) (v >>> shift & 255));
        }
        return tape.length();
    }

    int end(int n) {
        if (n < 0 || n > tape.length()) {
            return BAD;
        }
        int had = tape.length();
        tape.setLength(n);
        return had;
    }

    int text() {
        String read = tape.toString();
        tape.setLength(0);
        int[] newA = new int[6];
        int[] newB = new int[6];
        int sum = 0;
        int at = 0;
        for (int parts = 0; ; parts++) {
            at = afterBlanks(read, at);
            if (at == read.length() && parts > 0) {
                a = newA;
                b = newB;
                latestFault = 0;
                return sum;
            }
            int kind = faultOf(read, at, "ab", "123456789");
            if (kind != 0) {
                latestFault = kind;
                return -10 - at;
            }
            int[] row = read.charAt(at) == 'a' ? newA : newB;
            at = afterBlanks(read, at + 1);
            kind = faultOf(read, at, "123456789", "ab");
            if (kind == 0 && sum + read.charAt(at) - '0' > 5) {
                kind = 3;
            }
            if (kind != 0) {
                latestFault = kind;
                return -10 - at;
            }
            int k = read.charAt(at) - '0';
            sum += k;
            row[k]++;
            at++;
        }
    }

    private static int afterBlanks(String read, int at) {
        int next = at;
        while (next < read.length() && read.charAt(next) == ' ') {
            next++;
        }
        return next;
    }

    private static int faultOf(String read, int at, String may, String mayNot) {
        if (at == read.length()) {
            return 2;
        }
        return may.indexOf(read.charAt(at)) >= 0 ? 0 : mayNot.indexOf(read.charAt(at)) >= 0 ? 2 : 1;
    }

    int fault() {
        return latestFault;
    }

    long tangent(int n) {
        if (n < 0 || n > 10) {
            return BAD;
        }
        if (a == null) {
            return STATE;
        }
        int d = 0;
        for (int k = 1; k <= 5; k++) {
            d += k * (a[k] + b[k]);
        }
        return tangent(d, n, a, b);
    }

    int has(int letter, int k) {
        if (letter < 0 || letter > 1 || k < 1 || k > 5) {
            return BAD;
        }
        return a == null ? STATE : letter == 0 ? a[k] : b[k];
    }

    long rational(int d) {
        return d < 1 || d > 7 ? BAD : splitCount(d);
    }

    int sheet(int k, int lane, int n) {
        if (k < 0 || k > 3 || lane < 0 || lane > 2 || n > 60) {
            return BAD;
        }
        if (n < 0) {
            return -14;
        }
        sheets[k] = new int[n];
        lanes[k] = lane;
        return 1;
    }

    int lay(int k, int i, int v) {
        if (k < 0 || k > 3) {
            return BAD;
        }
        if (sheets[k] == null) {
            return -11;
        }
        if (i < 0 || i >= sheets[k].length) {
            return -12;
        }
        sheets[k][i] = lanes[k] == 0 ? (byte) v : lanes[k] == 1 ? (short) v : v;
        return 1;
    }

    int draw(int k, int lane, int f, int d, int n) {
        if (k < 0 || k > 3 || lane < 0 || lane > 2 || n < 0 || n > 6 || d < 1 || d > 4) {
            return BAD;
        }
        if (sheets[k] == null) {
            return -11;
        }
        if (lanes[k] != lane) {
            return -13;
        }
        Pic pic = new Pic(d);
        for (int s = 0; s < n; s++) {
            long first = (long) f + 3 * s;
            if (first < 0 || first + 2 >= sheets[k].length) {
                return -12;
            }
            int[] row = Arrays.copyOfRange(sheets[k], (int) first, (int) first + 3);
            if (!isStair(pic, row[0], row[1], row[2])) {
                return -20 - s;
            }
            pic.add(row[0], row[1], row[2]);
        }
        return come(pic);
    }

    int many(int what) {
        switch (what) {
            case 0: return pictures.size();
            case 1: return sheets[0] == null ? NONE : sheets[0].length;
            case 2: return tape.length();
            case 3: return pictures.stream().mapToInt(pic -> pic.stairs.size()).sum();
            default: return BAD;
        }
    }
}
