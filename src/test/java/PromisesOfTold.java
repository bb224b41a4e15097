import java.util.ArrayList;
import java.util.List;

/** Promises 24 to 28 of the document: rows, and what is told. */
final class PromisesOfTold {
    private static final int NONE = NobodyChecks.NONE, UNKNOWN = NobodyChecks.UNKNOWN, OUTSIDE = NobodyChecks.OUTSIDE,
        STATE = NobodyChecks.STATE, FULL = NobodyChecks.FULL;
    private static final int ALIKE_UNKNOWN = -1000001, ALIKE_OUTSIDE = -1000002, ALIKE_NONE = -1000003;
    private static final int[] FAR = {Integer.MIN_VALUE, Integer.MAX_VALUE};

    private PromisesOfTold() {
    }

    static void hold() {
        row();
        alike();
        crowd();
        count();
        digest();
    }

    private static void row() {
        Document.heads("## Promise 24: row `int row(int answers, long guesses)`:");
        Document.says("A ROW: how many.");
        NobodyChecks x = Due.asked("1:50,50,50");
        for (int many = 1; many <= 24; many++) {
            Document.due("row", x.row(many % 27, many), many);
            Document.due("count", x.count(3), many);
        }
        Document.says("STATE: there is no QUESTION;");
        Document.refused(new NobodyChecks(), "row", y -> y.row(0, NONE), STATE);
        Document.refused(new NobodyChecks(), "row, answers", y -> y.row(-1, -2), STATE);
        Document.says("OUTSIDE: answers (0 to 3 to the number of PERSONS, less 1), guesses (NONE: not told; else 0 to 101 to the number of "
            + "PERSONS, less 1);");
        for (int persons = 2; persons <= 4; persons++) {
            NobodyChecks z = Due.asked(Edge.oneCase(1, 50, persons));
            int answers = Edge.power(3, persons);
            long guesses = Edge.power(101, persons);
            for (int wrong : new int[] {-1, answers, FAR[0], FAR[1]}) {
                Document.refused(z, "answers " + wrong, y -> y.row(wrong, NONE), OUTSIDE);
            }
            for (long wrong : new long[] {-2, guesses, Long.MIN_VALUE, Long.MAX_VALUE}) {
                Document.refused(z, "guesses " + wrong, y -> y.row(0, wrong), OUTSIDE);
            }
            Document.due("least", z.row(0, NONE), 1);
            Document.due("least GUESSES", z.row(0, 0), 2);
            Document.due("greatest", z.row(answers - 1, guesses - 1), 3);
        }
        Document.says("FULL.");
        Document.refused(x, "the 25th", y -> y.row(0, NONE), FULL);
        Document.refused(x, "OUTSIDE ahead of it", y -> y.row(27, NONE), OUTSIDE);
    }

    private static void alike() {
        Document.heads("## Promise 25: alike `int alike(int i, int j, int part)`:");
        Document.says("ALIKE (part 0 above, 1 below), BEYOND LUCK (2 above, it may be below 0; 3 below).");
        NobodyChecks x = Due.asked("1:50,50,50");
        // PERSONS 0 and 1 answer 1 and 0, 0 and 1, both 1; 2 does not answer.
        x.row((int) Edge.figures(3, 1, 0, 2), NONE);
        x.row((int) Edge.figures(3, 0, 1, 2), NONE);
        x.row((int) Edge.figures(3, 1, 1, 2), NONE);
        // Like in one of three; of six pairs of ROWS in four: 1/3 - 4/6.
        // (0's 1 with 1's 1 of the second and third, 0's 0 with 1's 0 of the first, 0's 1 of the third with the second's.)
        int[] want = {1, 3, -1, 3};
        for (int part = 0; part <= 3; part++) {
            Document.due("part " + part, x.alike(0, 1, part), want[part]);
        }
        Document.says("-1000001: UNKNOWN (i, j, or they are the same); -1000002: OUTSIDE;");
        for (int wrong : new int[] {-1, 3, FAR[0], FAR[1]}) {
            Document.due("i", x.alike(wrong, 0, 0), ALIKE_UNKNOWN);
            Document.due("j", x.alike(0, wrong, 0), ALIKE_UNKNOWN);
            Document.due("i, part", x.alike(wrong, 0, 4), ALIKE_UNKNOWN);
        }
        for (int wrong : new int[] {-1, 4, FAR[0], FAR[1]}) {
            Document.due("part", x.alike(0, 1, wrong), ALIKE_OUTSIDE);
            Document.due("part where there is none", x.alike(0, 2, wrong), ALIKE_OUTSIDE);
            Document.due("the same, part", x.alike(1, 1, wrong), ALIKE_UNKNOWN);
        }
        Document.due("nobody without a QUESTION", new NobodyChecks().alike(0, 1, 0), ALIKE_UNKNOWN);
        Document.says("-1000003: there is none (fewer than one, of BEYOND LUCK two ROWS in which both answered).");
        for (int part = 0; part <= 3; part++) {
            Document.due("2 never answered", x.alike(0, 2, part), ALIKE_NONE);
        }
        NobodyChecks y = Due.asked("1:50,50");
        int[][] told = {{ALIKE_NONE, ALIKE_NONE, ALIKE_NONE, ALIKE_NONE}, {1, 1, ALIKE_NONE, ALIKE_NONE}, {1, 1, 0, 1}};
        for (int rows = 0; rows <= 2; rows++) {
            for (int part = 0; part <= 3; part++) {
                Document.due(rows + " ROWS, part " + part, y.alike(0, 1, part), told[rows][part]);
            }
            y.row(0, NONE);
        }
    }

    private static void crowd() {
        Document.heads("## Promise 26: crowd `int crowd(int row, int what)`:");
        Document.says("What the CROWD says of a ROW (what = 0), at what it is SURPRISED (1);");
        NobodyChecks x = Due.asked("1:50,50,50");
        // Two of three answer 1, where 50 hundredths were guessed, and where 90 were.
        x.row((int) Edge.figures(3, 1, 1, 0), Edge.figures(101, 50, 50, 50));
        x.row((int) Edge.figures(3, 1, 0, 1), Edge.figures(101, 90, 90, 90));
        x.row((int) Edge.figures(3, 0, 0, 1), Edge.figures(101, 10, 10, 10));
        int[] says = {1, 1, 0}, surprises = {1, 0, 1};
        for (int row = 0; row < 3; row++) {
            Document.due("ROW " + row + " says", x.crowd(row, 0), says[row]);
            Document.due("ROW " + row + " surprises", x.crowd(row, 1), surprises[row]);
        }
        Document.says("NONE: nothing.");
        x.row((int) Edge.figures(3, 1, 2, 0), Edge.figures(101, 49, 100, 51));
        x.row((int) Edge.figures(3, 2, 2, 2), Edge.figures(101, 49, 100, 51));
        Document.due("as many", x.crowd(3, 0), NONE);
        Document.due("as guessed", x.crowd(3, 1), NONE);
        Document.due("nobody answered", x.crowd(4, 0), NONE);
        Document.due("nobody answered", x.crowd(4, 1), NONE);
        Document.says("UNKNOWN; OUTSIDE.");
        for (int wrong : new int[] {-1, 5, FAR[0], FAR[1]}) {
            Document.due("row", x.crowd(wrong, 0), UNKNOWN);
            Document.due("row, what", x.crowd(wrong, 2), UNKNOWN);
        }
        for (int wrong : new int[] {-1, 2, FAR[0], FAR[1]}) {
            Document.due("what", x.crowd(0, wrong), OUTSIDE);
        }
    }

    /** All that an object is told, beside it. */
    private static NobodyChecks told() {
        NobodyChecks x = Due.asked("7:80,70,90;3:20,40,10");
        x.cost(0, 2);
        x.cost(2, 1);
        x.pay(1, 12, 0, 0, 0);
        x.pay(4, 4, 20, 30, 90);
        x.pay(3, 3, 1, 5, 4);
        x.pay(0, 5, 6, 7, 8);
        x.row(5, 1717);
        x.row(26, NONE);
        x.leastTable(0);
        Due.write(x, "9:;~");
        return x;
    }

    private static void count() {
        Document.heads("## Promise 27: count `int count(int what)`:");
        Document.says("How many: 0 CASES, 1 PERSONS, 2 PAYS, 3 ROWS, 4 letters of THE PAGE, 5 how often leastTable() was done.");
        int[] want = {2, 3, 4, 2, 4, 1};
        for (int what = 0; what <= 5; what++) {
            Document.due("count(" + what + ")", told().count(what), want[what]);
        }
        Document.says("OUTSIDE.");
        for (int wrong : new int[] {-1, 6, FAR[0], FAR[1]}) {
            Document.due("count(" + wrong + ")", told().count(wrong), OUTSIDE);
        }
    }

    private static long mixed(List<Long> numbers) {
        long h = 347;
        for (long number : numbers) {
            h = 31 * h + number;
        }
        return h;
    }

    private static void add(List<Long> numbers, long... more) {
        for (long number : more) {
            numbers.add(number);
        }
    }

    private static void digest() {
        Document.heads("## Promise 28: digest `long digest()`:");
        Document.says("h is 347, then for each of these numbers, in order, 31 times h, and it (as longs, wrapping): of each CASE its WEIGHT, "
            + "CHANCES; of each PERSON its COST; of each PAY KIND, q0 to q3, and with a QUESTION whether truth rests (1, 0), all(.., "
            + "0), WORTH of PERSON 0 by truth above, below; of each ROW its answers, GUESSES (NONE), CROWD, SURPRISED; letters of THE "
            + "PAGE; what count() tells for 0 to 5.");
        NobodyChecks x = told();
        List<Long> numbers = new ArrayList<>();
        add(numbers, 7, 80, 70, 90, 3, 20, 40, 10, 2, 0, 1);
        long[][] pays = {{1, 12, 0, 0, 0}, {4, 4, 20, 30, 90}, {3, 3, 1, 5, 4}, {0, 5, 6, 7, 8}};
        for (int pay = 0; pay < 4; pay++) {
            add(numbers, pays[pay]);
            add(numbers, x.rests(pay, 0, 0), x.all(pay, 0), x.worth(pay, 0, 0, 0), x.worth(pay, 0, 0, 1));
        }
        // 5 is 2, 1, 0: PERSON 0 none, 1 answers 1, 2 answers 0; 1717 is GUESSES of 0, 17, 0.
        add(numbers, 5, 1717, NONE, 1);
        add(numbers, 26, NONE, NONE, NONE);
        add(numbers, '9', ':', ';', '~');
        add(numbers, 2, 3, 4, 2, 4, 1);
        Document.due("digest", x.digest(), mixed(numbers));
        truthRests();
        withoutQuestion();
    }

    /** Two who see what is so: by a SAME of 10 truth is at rest, and three more; by a PAY all are. */
    private static void truthRests() {
        NobodyChecks x = Edge.allSee(3, 1, 2);
        x.pay(1, 10, 0, 0, 0);
        x.pay(0, 7, 0, 0, 0);
        List<Long> numbers = new ArrayList<>();
        add(numbers, 3, 100, 100, 1, 0, 0, 0, 0);
        add(numbers, 1, 10, 0, 0, 0, 1, 4, 10, 1);
        add(numbers, 0, 7, 0, 0, 0, 1, 16, 7, 1);
        add(numbers, 2, 2, 2, 0, 0, 0);
        Document.due("where truth rests", x.digest(), mixed(numbers));
        x.cost(0, 999);
        numbers.set(6, 999L);
        // No PROFILE rests where PERSON 0 looks: by the PAY half of them are left.
        numbers.set(13, 0L);
        numbers.set(14, (long) x.all(0, 0));
        numbers.set(15, 10L - 999);
        numbers.set(22, 0L);
        numbers.set(23, 8L);
        numbers.set(24, 7L - 999);
        Document.due("where it does not", x.digest(), mixed(numbers));
    }

    private static void withoutQuestion() {
        NobodyChecks x = new NobodyChecks();
        List<Long> numbers = new ArrayList<>();
        add(numbers, 0, 0, 0, 0, 0, 0);
        Document.due("of nothing", x.digest(), mixed(numbers));
        x.pay(2, 1, 2, 3, 4);
        Due.write(x, "~");
        numbers.clear();
        add(numbers, 2, 1, 2, 3, 4, 126, 0, 0, 1, 0, 1, 0);
        Document.due("without a QUESTION", x.digest(), mixed(numbers));
    }
}
