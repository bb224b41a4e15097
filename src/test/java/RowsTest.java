/** Promises 24 to 26: row, alike, crowd. */
public final class RowsTest {
    private static final int NONE = NobodyChecks.NONE, UNKNOWN = NobodyChecks.UNKNOWN,
        OUTSIDE = NobodyChecks.OUTSIDE, STATE = NobodyChecks.STATE, FULL = NobodyChecks.FULL;

    public static void main(String[] args) {
        row();
        rowsOfMore();
        alike();
        alikeOfThree();
        alikeRefused();
        crowd();
        surprised();
        crowdRefused();
        Due.end();
    }

    private static void row() {
        NobodyChecks x = new NobodyChecks();
        Due.due("no question", x.row(0, NONE), STATE);
        Due.due("no question ahead of OUTSIDE", x.row(-1, -2), STATE);
        Due.write(x, "1:50,50");
        x.question();
        Due.due("answers", x.row(-1, NONE), OUTSIDE);
        Due.due("answers", x.row(9, NONE), OUTSIDE);
        Due.due("guesses", x.row(0, -2), OUTSIDE);
        Due.due("guesses", x.row(0, 101 * 101), OUTSIDE);
        Due.due("guesses", x.row(0, Long.MIN_VALUE), OUTSIDE);
        Due.due("guesses", x.row(0, Long.MAX_VALUE), OUTSIDE);
        Due.due("guesses", x.row(0, 1L << 32), OUTSIDE);
        Due.due("refusals change nothing", x.count(3), 0);
        Due.due("the greatest", x.row(8, 101 * 101 - 1), 1);
        for (int many = 2; many <= 24; many++) {
            Due.due("rows", x.row(many % 9, NONE), many);
        }
        Due.due("the 25th", x.row(0, NONE), FULL);
        Due.due("OUTSIDE ahead of FULL", x.row(9, NONE), OUTSIDE);
        Due.due("24", x.count(3), 24);
    }

    private static void rowsOfMore() {
        NobodyChecks x = Due.asked("1:50,50,50,50");
        Due.due("81 rows of answers", x.row(80, NONE), 1);
        Due.due("no more", x.row(81, NONE), OUTSIDE);
        Due.due("101 to the 4th", x.row(0, 104060400L), 2);
        Due.due("no more", x.row(0, 104060401L), OUTSIDE);
    }

    /** A ROW of up to four answers. */
    private static int told(int... answers) {
        int sum = 0;
        for (int k = answers.length - 1; k >= 0; k--) {
            sum = 3 * sum + answers[k];
        }
        return sum;
    }

    private static long guessed(int... guesses) {
        long sum = 0;
        for (int k = guesses.length - 1; k >= 0; k--) {
            sum = 101 * sum + guesses[k];
        }
        return sum;
    }

    private static void alikeIs(NobodyChecks x, int i, int j, int... parts) {
        for (int part = 0; part < 4; part++) {
            Due.due("alike(" + i + ", " + j + ", " + part + ")", x.alike(i, j, part), parts[part]);
        }
    }

    private static void alike() {
        NobodyChecks x = Due.asked("1:50,50");
        int none = -1000003;
        alikeIs(x, 0, 1, none, none, none, none);
        x.row(told(2, 1), NONE);
        x.row(told(0, 2), NONE);
        x.row(told(2, 2), NONE);
        alikeIs(x, 0, 1, none, none, none, none);
        x.row(told(1, 1), NONE);
        alikeIs(x, 0, 1, 1, 1, none, none);
        x.row(told(0, 0), NONE);
        // Alike in each ROW, never across.
        alikeIs(x, 0, 1, 1, 1, 1, 1);
        x.row(told(0, 1), NONE);
        // 2 of 3; across ROWS 2 of 6: 0's 1 and the last 1 of the other, 0's last 0 and the other's 0.
        alikeIs(x, 0, 1, 2, 3, 1, 3);
        alikeIs(x, 1, 0, 2, 3, 1, 3);
    }

    private static void alikeOfThree() {
        NobodyChecks x = Due.asked("1:50,50,50");
        x.row(told(0, 2, 1), NONE);
        x.row(told(1, 1, 0), NONE);
        // Never alike, always across.
        alikeIs(x, 0, 2, 0, 1, -1, 1);
        alikeIs(x, 2, 0, 0, 1, -1, 1);
        alikeIs(x, 0, 1, 1, 1, -1000003, -1000003);
        // The same answers told twice are two ROWS.
        NobodyChecks y = Due.asked("1:50,50,50");
        y.row(told(1, 1, 2), NONE);
        y.row(told(1, 1, 2), NONE);
        alikeIs(y, 0, 1, 1, 1, 0, 1);
    }

    private static void alikeRefused() {
        NobodyChecks x = Due.asked("1:50,50");
        int unknown = -1000001, outside = -1000002;
        Due.due("the same", x.alike(0, 0, 0), unknown);
        Due.due("i", x.alike(2, 0, 0), unknown);
        Due.due("j", x.alike(0, -1, 0), unknown);
        Due.due("part 4", x.alike(0, 1, 4), outside);
        Due.due("part -1", x.alike(0, 1, -1), outside);
        Due.due("UNKNOWN ahead of OUTSIDE", x.alike(0, 2, 4), unknown);
        Due.due("extremes", x.alike(Integer.MIN_VALUE, Integer.MAX_VALUE, 0), unknown);
    }

    private static void crowd() {
        NobodyChecks x = Due.asked("1:50,50,50,50");
        int[][] rows = {{1, 1, 1, 1}, {0, 0, 0, 0}, {2, 2, 2, 2}, {1, 1, 0, 0}, {1, 2, 2, 2}, {0, 1, 2, 0}, {2, 0, 1, 1}};
        int[] want = {1, 0, NONE, NONE, 1, 0, 1};
        for (int k = 0; k < rows.length; k++) {
            x.row(told(rows[k]), NONE);
            Due.due("the crowd says of " + k, x.crowd(k, 0), want[k]);
            Due.due("no guesses were told of " + k, x.crowd(k, 1), NONE);
        }
    }

    private static void surprised() {
        NobodyChecks x = Due.asked("1:50,50,50");
        x.row(told(1, 0, 0), guessed(30, 30, 39));
        Due.due("a third is above 33", x.crowd(0, 1), 1);
        Due.due("the crowd says 0", x.crowd(0, 0), 0);
        x.row(told(1, 0, 0), guessed(30, 31, 40));
        Due.due("a third is below 33 and two thirds", x.crowd(1, 1), 0);
        x.row(told(1, 0, 0), guessed(30, 30, 40));
        Due.due("a third is as guessed", x.crowd(2, 1), NONE);
        x.row(told(1, 0, 2), guessed(50, 50, 100));
        Due.due("the guess of one who did not answer does not count", x.crowd(3, 1), NONE);
        x.row(told(2, 2, 2), guessed(100, 100, 100));
        Due.due("nobody answered", x.crowd(4, 1), NONE);
        x.row(told(1, 1, 1), guessed(100, 100, 100));
        Due.due("all as guessed", x.crowd(5, 1), NONE);
        x.row(told(0, 0, 0), 0);
        Due.due("none as guessed", x.crowd(6, 1), NONE);
        x.row(told(2, 2, 1), guessed(0, 0, 99));
        Due.due("one", x.crowd(7, 1), 1);
    }

    private static void crowdRefused() {
        NobodyChecks x = Due.asked("1:50,50");
        Due.due("no row", x.crowd(0, 0), UNKNOWN);
        x.row(0, NONE);
        Due.due("row 1", x.crowd(1, 0), UNKNOWN);
        Due.due("row -1", x.crowd(-1, 2), UNKNOWN);
        Due.due("what 2", x.crowd(0, 2), OUTSIDE);
        Due.due("what -1", x.crowd(0, -1), OUTSIDE);
    }
}
