import java.util.List;

/** Compares answers with those that are due, prints the wrong ones, and ends with 1 if there was one. */
final class Due {
    private final String test;
    private int wrong;
    private int asked;

    Due(String test) {
        this.test = test;
    }

    void is(String call, long got, long want) {
        asked++;
        if (got != want) {
            wrong++;
            System.out.println(test + ": " + call + " answered " + got + ", due is " + want);
        }
    }

    /** The first row that is unlike is printed. */
    void same(String call, List<String> got, List<String> want) {
        asked++;
        if (got.equals(want)) {
            return;
        }
        wrong++;
        int row = 0;
        while (row < got.size() && row < want.size() && got.get(row).equals(want.get(row))) {
            row++;
        }
        System.out.println(test + ": after " + call + " is seen " + rowOf(got, row) + ", due is " + rowOf(want, row));
    }

    private static String rowOf(List<String> rows, int row) {
        return row < rows.size() ? rows.get(row) : "no more";
    }

    void close() {
        System.out.println(test + ": " + asked + " answers, " + wrong + " not as due");
        if (wrong != 0 || asked == 0) {
            System.exit(1);
        }
    }
}
