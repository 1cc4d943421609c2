import java.util.Random;

/** Long runs of calls with any arguments, each answer compared with the model's. */
public final class RandomRunsTest {
    // An object is used for 512 calls; one step of a run makes fewer than 30.
    private static final int RUNS = 1500, CALLS = 512 - 30;
    private static final int[] WILD = {Integer.MIN_VALUE, Integer.MAX_VALUE, -1000, -2, 100, 61, 256, 65536};
    private static final String[] TEXTS = {"a1", "b1", "b 2", "a3 ", " b1b1", "a2b1", "b4", "b5", "a1 b1 b2"};

    private final Random random;
    private final Due due;
    private final int run;
    private final FloorCurves x = new FloorCurves();
    private final Model m = new Model();

    private RandomRunsTest(int run, Due due) {
        this.run = run;
        this.random = new Random(run);
        this.due = due;
    }

    public static void main(String[] args) {
        Due due = new Due("RandomRunsTest");
        for (int run = 0; run < RUNS; run++) {
            new RandomRunsTest(run, due).go();
        }
        due.close();
    }

    private void go() {
        for (int calls = 0; calls < CALLS; ) {
            calls += random.nextInt(12) == 0 ? compose() : oneCall();
        }
    }

    /** Mostly from low to high, sometimes just outside, rarely far outside. */
    private int number(int low, int high) {
        int dice = random.nextInt(60);
        if (dice == 0) {
            return WILD[random.nextInt(WILD.length)];
        }
        return dice < 3 ? low - 1 : dice < 6 ? high + 1 : low + random.nextInt(high - low + 1);
    }

    private int picture() {
        return number(0, Math.max(0, m.many(0) - 1));
    }

    private void same(String call, long got, long want) {
        due.is("run " + run + " " + call, got, want);
    }

    /** Feeds a text that is right or nearly so, reads it, and asks for what it told. */
    private int compose() {
        StringBuilder made = new StringBuilder();
        for (int i = random.nextInt(3); i >= 0; i--) {
            made.append(random.nextInt(30) == 0 ? anyByte() : TEXTS[random.nextInt(TEXTS.length)]);
        }
        String told = made.toString();
        int calls = 2;
        x.end(0);
        m.end(0);
        for (int at = 0; at < told.length(); at += 8, calls++) {
            long v = 0;
            for (int i = 0; i < 8; i++) {
                v = v << 8 | (at + i < told.length() ? told.charAt(at + i) : ' ');
            }
            same("feed " + v, x.feed(v), m.feed(v));
        }
        int keep = random.nextInt(4) == 0 ? made.length() + 1 : made.length();
        same("end " + keep, x.end(keep), m.end(keep));
        same("text " + told, x.text(), m.text());
        same("fault " + told, x.fault(), m.fault());
        for (int n = 0; n <= 10; n += 1 + random.nextInt(6), calls++) {
            same("tangent " + n + " of " + told, x.tangent(n), m.tangent(n));
        }
        return calls + 2;
    }

    private String anyByte() {
        return String.valueOf((char) random.nextInt(256));
    }

    private int oneCall() {
        switch (random.nextInt(5)) {
            case 0: return shape();
            case 1: return look();
            case 2: return all();
            case 3: return sheets();
            default: return random.nextInt(3) == 0 ? tape() : look();
        }
    }

    private int shape() {
        int p = picture();
        int i = number(0, 2);
        int j = number(Math.min(3, Math.max(1, i + 1)), 3);
        int w = random.nextInt(3) > 0 ? 1 : number(1, 4);
        switch (random.nextInt(9)) {
            case 0: {
                int d = number(1, 4);
                same("picture " + d, x.picture(d), m.picture(d));
                break;
            }
            case 1:
                for (int drops = random.nextInt(6); drops > 0; drops--) {
                    same("drop", x.drop(), m.drop());
                }
                return 6;
            case 2:
                same("cut " + p + " " + i + " " + j + " " + w, x.cut(p, i, j, w), m.cut(p, i, j, w));
                break;
            case 3: {
                int s = m.about(p, 1) > 0 ? random.nextInt(m.about(p, 1)) : 0;
                int from = m.told(p, s, 0);
                int to = m.told(p, s, 1);
                int weight = m.told(p, s, 2);
                same("cut stair " + s, x.cut(p, from, to, weight), m.cut(p, from, to, weight));
                break;
            }
            default:
                same("stair " + p + " " + i + " " + j + " " + w, x.stair(p, i, j, w), m.stair(p, i, j, w));
        }
        return 1;
    }

    private int look() {
        int p = picture();
        switch (random.nextInt(8)) {
            case 0: {
                int what = number(0, 6);
                same("about " + p + " " + what, x.about(p, what), m.about(p, what));
                break;
            }
            case 1: {
                int s = number(0, 5);
                int what = number(0, 2);
                same("told " + p + " " + s + " " + what, x.told(p, s, what), m.told(p, s, what));
                break;
            }
            case 2: {
                int floor = number(0, 3);
                same("out " + p + " " + floor, x.out(p, floor), m.out(p, floor));
                break;
            }
            case 3: {
                int k = number(-6, 6);
                same("spread " + p + " " + k, x.spread(p, k), m.spread(p, k));
                break;
            }
            case 4:
                same("markings " + p, x.markings(p), m.markings(p));
                break;
            case 5: {
                int f = number(0, 3);
                int n = number(0, 5);
                same("between " + p + " " + f + " " + n, x.between(p, f, n), m.between(p, f, n));
                break;
            }
            case 6: {
                int q = picture();
                same("unlike " + p + " " + q, x.unlike(p, q), m.unlike(p, q));
                break;
            }
            default:
                same("turned " + p, x.turned(p), m.turned(p));
        }
        return 1;
    }

    private int all() {
        int d = number(1, 4);
        int n = number(0, 6);
        switch (random.nextInt(8)) {
            case 0: {
                int k = number(-3, 3);
                same("spreadAll " + d + " " + n + " " + k, x.spreadAll(d, n, k), m.spreadAll(d, n, k));
                break;
            }
            case 1:
                same("listed " + d + " " + n, x.listed(d, n), m.listed(d, n));
                break;
            case 2:
            case 3: {
                int i = number(0, Math.max(0, m.listed(d, n) - 1));
                same("take " + d + " " + n + " " + i, x.take(d, n, i), m.take(d, n, i));
                break;
            }
            case 4:
                same("rational " + n, x.rational(n), m.rational(n));
                break;
            case 5:
                same("count " + d + " " + n, x.count(d, n), m.count(d, n));
                same("signed " + d + " " + n, x.signed(d, n), m.signed(d, n));
                return 2;
            default: {
                int p = picture();
                same("place " + p, x.place(p), m.place(p));
            }
        }
        return 1;
    }

    private int sheets() {
        int k = number(0, 3);
        int lane = number(0, 2);
        switch (random.nextInt(6)) {
            case 0: {
                int n = number(0, random.nextInt(3) == 0 ? 60 : 12);
                if (random.nextInt(3) == 0) {
                    same("sheet " + k + " " + lane + " " + n, x.sheet(k, lane, n), m.sheet(k, lane, n));
                }
                break;
            }
            case 1: {
                int f = number(0, 8);
                int d = number(1, 4);
                int n = number(0, 4);
                same("draw " + k + " " + lane + " " + f + " " + d + " " + n,
                    x.draw(k, lane, f, d, n), m.draw(k, lane, f, d, n));
                break;
            }
            case 2: {
                int what = number(0, 3);
                same("many " + what, x.many(what), m.many(what));
                break;
            }
            default:
                return layStair(k, number(0, 3) * 3);
        }
        return 1;
    }

    private int layStair(int k, int i) {
        int[] stair = {random.nextInt(3), 1 + random.nextInt(3), number(1, 4) + (random.nextInt(9) == 0 ? 65536 : 0)};
        for (int c = 0; c < 3; c++) {
            same("lay " + k + " " + (i + c) + " " + stair[c], x.lay(k, i + c, stair[c]), m.lay(k, i + c, stair[c]));
        }
        return 3;
    }

    private int tape() {
        switch (random.nextInt(5)) {
            case 0: {
                int n = number(0, Math.max(0, m.many(2)));
                same("end " + n, x.end(n), m.end(n));
                break;
            }
            case 1: {
                int letter = number(0, 1);
                int k = number(1, 5);
                same("has " + letter + " " + k, x.has(letter, k), m.has(letter, k));
                break;
            }
            case 2: {
                int n = number(0, 10);
                same("tangent " + n, x.tangent(n), m.tangent(n));
                break;
            }
            case 3:
                for (int i = random.nextInt(12); i > 0; i--) {
                    long v = random.nextLong();
                    same("feed " + v, x.feed(v), m.feed(v));
                }
                return 12;
            default:
                same("text", x.text(), m.text());
                same("fault", x.fault(), m.fault());
                return 2;
        }
        return 1;
    }
}
