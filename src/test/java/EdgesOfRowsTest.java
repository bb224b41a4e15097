/** The boundary cases of ROWS and of promises 24 to 26: a method for each sentence. */
public final class EdgesOfRowsTest {
    private static final int NONE = NobodyChecks.NONE, UNKNOWN = NobodyChecks.UNKNOWN,
        OUTSIDE = NobodyChecks.OUTSIDE, STATE = NobodyChecks.STATE, FULL = NobodyChecks.FULL;
    private static final int ALIKE_UNKNOWN = -1000001, ALIKE_OUTSIDE = -1000002, ALIKE_NONE = -1000003;

    public static void main(String[] args) {
        rowsAtMost();
        answersOfBaseThree();
        guessesOfBase();
        rowWithoutQuestion();
        fewerThanOne();
        fewerThanTwo();
        unlikeRows();
        alikeInLowestTerms();
        alikeRefused();
        crowdSays();
        aboveTheMean();
        guessesNotTold();
        theirGuessesAlone();
        crowdRefused();
        Due.end();
    }

    private static NobodyChecks of(int persons) {
        return Due.asked(Edge.oneCase(1, 50, persons));
    }

    private static int told(int... answers) {
        return (int) Edge.figures(3, answers);
    }

    private static long guessed(int... guesses) {
        return Edge.figures(101, guesses);
    }

    private static void rowsAtMost() {
        Edge.says("ROWS (24 at most) .. A ROW: how many .. FULL.");
        for (int persons = 2; persons <= 4; persons++) {
            NobodyChecks x = of(persons);
            int[] wrong = {-1, Edge.power(3, persons)};
            for (int many = 1; many <= 24; many++) {
                Edge.due("ROW " + many, x.row(many % 9, many % 2 == 0 ? NONE : many), many);
                Edge.due("how many", x.count(3), many);
            }
            Edge.refused(x, "the 25th", y -> y.row(0, NONE), FULL);
            Edge.refused(x, "the 25th with GUESSES", y -> y.row(0, 0), FULL);
            for (int answers : wrong) {
                Edge.refused(x, "the 25th, answers " + answers, y -> y.row(answers, NONE), OUTSIDE);
            }
            Edge.refused(x, "the 25th, guesses -2", y -> y.row(0, -2), OUTSIDE);
            Edge.due("the last ROW", x.crowd(23, 1), NONE);
        }
    }

    private static void answersOfBaseThree() {
        Edge.says("OUTSIDE: answers (0 to 3 to the number of PERSONS, less 1)");
        for (int persons = 2; persons <= 4; persons++) {
            int limit = Edge.power(3, persons);
            NobodyChecks x = of(persons);
            Edge.due("the least", x.row(0, NONE), 1);
            Edge.due("the greatest", x.row(limit - 1, NONE), 2);
            int[] wrong = {-1, limit, Integer.MIN_VALUE, Integer.MAX_VALUE};
            for (int answers : wrong) {
                Edge.refused(x, "answers " + answers, y -> y.row(answers, NONE), OUTSIDE);
            }
            Edge.due("all answered 0", x.crowd(0, 0), 0);
            Edge.due("none answered", x.crowd(1, 0), NONE);
            // PERSON 0's figure is the lowest.
            Edge.due("0 alone answers", x.row(limit - 1 - 1, NONE), 3);
            Edge.due("it answered 1", x.crowd(2, 0), 1);
            Edge.due("the last alone answers", x.row(limit - 1 - 2 * limit / 3, NONE), 4);
            Edge.due("it answered 0", x.crowd(3, 0), 0);
            Edge.due("0 and the last have answered together in one", x.alike(0, persons - 1, 1), 1);
        }
    }

    private static void guessesOfBase() {
        Edge.says("guesses (NONE: not told; else 0 to 101 to the number of PERSONS, less 1)");
        long[] limits = {10201, 1030301, 104060401};
        for (int persons = 2; persons <= 4; persons++) {
            long limit = limits[persons - 2];
            NobodyChecks x = of(persons);
            int ones = Edge.power(3, persons) / 2;
            Edge.due("not told", x.row(ones, NONE), 1);
            Edge.due("the least", x.row(ones, 0), 2);
            Edge.due("the greatest", x.row(ones, limit - 1), 3);
            Edge.due("the greatest but one", x.row(ones, limit - 2), 4);
            long[] wrong = {-2, limit, limit + 1, 1L << 32, -1L << 32, Long.MIN_VALUE, Long.MAX_VALUE,
                Integer.MIN_VALUE, Integer.MAX_VALUE, 0xFFFFFFFFL};
            for (long guesses : wrong) {
                Edge.refused(x, "guesses " + guesses, y -> y.row(0, guesses), OUTSIDE);
                Edge.refused(x, "guesses " + guesses + ", answers -1", y -> y.row(-1, guesses), OUTSIDE);
            }
            // All answered 1: not told, all guessed 0, all guessed 100, PERSON 0 guessed 99.
            Edge.due("not told", x.crowd(0, 1), NONE);
            Edge.due("all guessed 0", x.crowd(1, 1), 1);
            Edge.due("all guessed 100", x.crowd(2, 1), NONE);
            Edge.due("one guessed 99", x.crowd(3, 1), 1);
        }
    }

    private static void rowWithoutQuestion() {
        Edge.says("row STATE: there is no QUESTION");
        NobodyChecks x = new NobodyChecks();
        int[] answers = {-1, 0, 1};
        for (int told : answers) {
            Edge.refused(x, "row", y -> y.row(told, NONE), STATE);
            Edge.refused(x, "row", y -> y.row(told, -2), STATE);
        }
        Due.write(x, "1:50,50");
        x.question();
        Edge.due("then", x.row(0, NONE), 1);
    }

    private static void alikeIs(NobodyChecks x, int i, int j, int... parts) {
        for (int part = 0; part < 4; part++) {
            Edge.due("alike(" + i + ", " + j + ", " + part + ")", x.alike(i, j, part), parts[part]);
        }
    }

    private static void fewerThanOne() {
        Edge.says("-1000003: there is none (fewer than one .. ROWS in which both answered)");
        NobodyChecks x = of(3);
        alikeIs(x, 0, 1, ALIKE_NONE, ALIKE_NONE, ALIKE_NONE, ALIKE_NONE);
        x.row(told(2, 2, 2), NONE);
        x.row(told(2, 1, 1), NONE);
        x.row(told(0, 2, 1), NONE);
        alikeIs(x, 0, 1, ALIKE_NONE, ALIKE_NONE, ALIKE_NONE, ALIKE_NONE);
        alikeIs(x, 1, 0, ALIKE_NONE, ALIKE_NONE, ALIKE_NONE, ALIKE_NONE);
        alikeIs(x, 1, 2, 1, 1, ALIKE_NONE, ALIKE_NONE);
        alikeIs(x, 0, 2, 0, 1, ALIKE_NONE, ALIKE_NONE);
    }

    private static void fewerThanTwo() {
        Edge.says("-1000003: there is none (.. of BEYOND LUCK two ROWS in which both answered)");
        NobodyChecks x = of(2);
        x.row(told(1, 1), NONE);
        alikeIs(x, 0, 1, 1, 1, ALIKE_NONE, ALIKE_NONE);
        x.row(told(2, 1), NONE);
        alikeIs(x, 0, 1, 1, 1, ALIKE_NONE, ALIKE_NONE);
        x.row(told(0, 0), NONE);
        alikeIs(x, 0, 1, 1, 1, 1, 1);
    }

    private static void unlikeRows() {
        Edge.says("the share of like answers over all pairs of two unlike ROWS of these");
        // The greatest and the least that there is, and nothing beyond luck.
        int[][] firsts = {{1, 1}, {0, 1}, {1, 1}, {0, 1}, {0, 0}};
        int[][] seconds = {{0, 0}, {1, 0}, {1, 1}, {0, 1}, {0, 1}};
        int[][] want = {{1, 1, 1, 1}, {0, 1, -1, 1}, {1, 1, 0, 1}, {0, 1, 0, 1}, {1, 2, 0, 1}};
        for (int k = 0; k < want.length; k++) {
            NobodyChecks x = of(2);
            x.row(told(firsts[k]), NONE);
            x.row(told(2, 0), NONE);
            x.row(told(seconds[k]), NONE);
            x.row(told(1, 2), NONE);
            alikeIs(x, 0, 1, want[k]);
            alikeIs(x, 1, 0, want[k]);
        }
        // 24 ROWS, all alike: 12 of each, so that in two ROWS 11 of 23 are like.
        NobodyChecks full = of(2);
        for (int row = 0; row < 24; row++) {
            full.row(row % 2 == 0 ? told(0, 0) : told(1, 1), NONE);
        }
        alikeIs(full, 0, 1, 1, 1, 12, 23);
        NobodyChecks unlike = of(2);
        for (int row = 0; row < 24; row++) {
            unlike.row(row % 2 == 0 ? told(0, 1) : told(1, 0), NONE);
        }
        alikeIs(unlike, 0, 1, 0, 1, -12, 23);
    }

    private static void alikeInLowestTerms() {
        Edge.says("Fractions are in lowest terms, below 1 at least.");
        NobodyChecks x = of(2);
        for (int row = 0; row < 24; row++) {
            x.row(row < 8 ? told(1, 1) : told(0, 1), NONE);
        }
        // 8 of 24; the other one always answers 1, so that luck is as much.
        alikeIs(x, 0, 1, 1, 3, 0, 1);
        NobodyChecks y = of(2);
        int[][] rows = {{1, 1}, {1, 1}, {0, 0}, {0, 1}};
        for (int[] row : rows) {
            y.row(told(row), NONE);
        }
        // 3 of 4; across: 2 and 2 for the first ones, none for the third, 1 for the last: 5 of 12.
        alikeIs(y, 0, 1, 3, 4, 1, 3);
    }

    private static void alikeRefused() {
        Edge.says("-1000001: UNKNOWN (i, j, or they are the same); -1000002: OUTSIDE");
        for (int persons = 2; persons <= 4; persons++) {
            int n = persons;
            NobodyChecks x = of(n);
            Edge.refused(x, "part 4 of none", y -> y.alike(0, 1, 4), ALIKE_OUTSIDE);
            Edge.refused(x, "part -1 of none", y -> y.alike(0, 1, -1), ALIKE_OUTSIDE);
            x.row(0, NONE);
            Edge.due("the first and the last", x.alike(0, n - 1, 0), 1);
            Edge.due("the last and the first", x.alike(n - 1, 0, 1), 1);
            int[] wrong = {-1, n, Integer.MIN_VALUE, Integer.MAX_VALUE};
            for (int person : wrong) {
                Edge.refused(x, "i " + person, y -> y.alike(person, 0, 0), ALIKE_UNKNOWN);
                Edge.refused(x, "j " + person, y -> y.alike(0, person, 0), ALIKE_UNKNOWN);
                Edge.refused(x, "j " + person + ", part 4", y -> y.alike(0, person, 4), ALIKE_UNKNOWN);
            }
            for (int person = 0; person < n; person++) {
                int p = person;
                Edge.refused(x, "the same", y -> y.alike(p, p, 0), ALIKE_UNKNOWN);
                Edge.refused(x, "the same, part 4", y -> y.alike(p, p, 4), ALIKE_UNKNOWN);
            }
            int[] parts = {-1, 4, Integer.MIN_VALUE, Integer.MAX_VALUE};
            for (int part : parts) {
                Edge.refused(x, "part " + part, y -> y.alike(0, 1, part), ALIKE_OUTSIDE);
            }
        }
        NobodyChecks none = new NobodyChecks();
        Edge.refused(none, "without a QUESTION", y -> y.alike(0, 1, 4), ALIKE_UNKNOWN);
    }

    private static void crowdSays() {
        Edge.says("A CROWD says of a ROW 1, if more answered 1 than 0, 0, if fewer; else nothing.");
        for (int persons = 2; persons <= 4; persons++) {
            for (int answers = 0; answers < Edge.power(3, persons); answers++) {
                NobodyChecks x = of(persons);
                x.row(answers, NONE);
                int ones = 0, zeros = 0;
                for (int left = answers, person = 0; person < persons; person++, left /= 3) {
                    ones += left % 3 == 1 ? 1 : 0;
                    zeros += left % 3 == 0 ? 1 : 0;
                }
                Edge.due("crowd of " + answers, x.crowd(0, 0), ones > zeros ? 1 : ones < zeros ? 0 : NONE);
            }
        }
    }

    private static void surprisedAt(int answers, long guesses, int persons, int want) {
        NobodyChecks x = of(persons);
        x.row(answers, guesses);
        Edge.due("crowd of " + answers + ", " + guesses, x.crowd(0, 1), want);
    }

    private static void aboveTheMean() {
        Edge.says("1, if the share of those who answered that answered 1 is above the mean of their GUESSES, 0, if it is below; else nothing");
        surprisedAt(told(1, 1), guessed(100, 100), 2, NONE);
        surprisedAt(told(1, 1), guessed(100, 99), 2, 1);
        surprisedAt(told(1, 1), guessed(99, 100), 2, 1);
        surprisedAt(told(0, 0), guessed(0, 0), 2, NONE);
        surprisedAt(told(0, 0), guessed(1, 0), 2, 0);
        surprisedAt(told(0, 0), guessed(0, 1), 2, 0);
        surprisedAt(told(1, 0), guessed(50, 50), 2, NONE);
        surprisedAt(told(1, 0), guessed(50, 51), 2, 0);
        surprisedAt(told(1, 0), guessed(50, 49), 2, 1);
        surprisedAt(told(0, 1), guessed(0, 100), 2, NONE);
        // A third lies between 33 and 34.
        surprisedAt(told(1, 0, 0), guessed(33, 33, 33), 3, 1);
        surprisedAt(told(1, 0, 0), guessed(34, 33, 33), 3, NONE);
        surprisedAt(told(1, 0, 0), guessed(34, 34, 33), 3, 0);
        surprisedAt(told(1, 1, 1, 0), guessed(100, 100, 100, 0), 4, NONE);
        surprisedAt(told(1, 1, 1, 0), guessed(100, 100, 100, 1), 4, 0);
        surprisedAt(told(1, 1, 1, 0), guessed(99, 100, 100, 0), 4, 1);
    }

    private static void guessesNotTold() {
        Edge.says("SURPRISED: of a ROW whose GUESSES were told");
        for (int answers = 0; answers < 9; answers++) {
            surprisedAt(answers, NONE, 2, NONE);
        }
        // All GUESSES 0 are told ones.
        surprisedAt(told(1, 0), 0, 2, 1);
    }

    private static void theirGuessesAlone() {
        Edge.says("the mean of their GUESSES (of those who answered)");
        surprisedAt(told(1, 2), guessed(100, 0), 2, NONE);
        surprisedAt(told(1, 2), guessed(99, 100), 2, 1);
        surprisedAt(told(2, 0), guessed(100, 0), 2, NONE);
        surprisedAt(told(2, 0), guessed(0, 1), 2, 0);
        surprisedAt(told(2, 2), guessed(0, 0), 2, NONE);
        surprisedAt(told(2, 2), guessed(100, 100), 2, NONE);
        surprisedAt(told(2, 2), guessed(50, 1), 2, NONE);
        surprisedAt(told(2, 1, 0, 2), guessed(0, 50, 50, 100), 4, NONE);
        surprisedAt(told(2, 1, 0, 2), guessed(100, 50, 49, 100), 4, 1);
        surprisedAt(told(2, 1, 0, 2), guessed(0, 50, 51, 0), 4, 0);
    }

    private static void crowdRefused() {
        Edge.says("What the CROWD says of a ROW (what = 0), at what it is SURPRISED (1) .. UNKNOWN; OUTSIDE.");
        NobodyChecks none = new NobodyChecks();
        Edge.refused(none, "no QUESTION", y -> y.crowd(0, 0), UNKNOWN);
        NobodyChecks x = of(2);
        for (int rows = 0; rows <= 24; rows++) {
            int[] wrong = {-1, rows, Integer.MIN_VALUE, Integer.MAX_VALUE};
            for (int row : wrong) {
                Edge.due("ROW " + row + " of " + rows, x.crowd(row, 0), UNKNOWN);
                Edge.due("ROW " + row + " of " + rows + ", what 2", x.crowd(row, 2), UNKNOWN);
            }
            x.row(told(1, 1), NONE);
        }
        Edge.refused(x, "ROW 24", y -> y.crowd(24, 0), UNKNOWN);
        Edge.due("ROW 23", x.crowd(23, 0), 1);
        int[] whats = {-1, 2, Integer.MIN_VALUE, Integer.MAX_VALUE};
        for (int what : whats) {
            Edge.refused(x, "what " + what, y -> y.crowd(0, what), OUTSIDE);
        }
    }
}
