/** 'Terms' of the document, 4: ROWS, ALIKE, BEYOND LUCK, the CROWD, SURPRISED; then refusals and fractions. */
final class TermsOfRows {
    private static final int NONE = NobodyChecks.NONE, UNKNOWN = NobodyChecks.UNKNOWN, OUTSIDE = NobodyChecks.OUTSIDE,
        STATE = NobodyChecks.STATE, FULL = NobodyChecks.FULL;

    /** ROWS of three PERSONS; an answer 2 is none. */
    private static final int[][] ANSWERS = {
        {1, 1, 0}, {0, 0, 2}, {1, 0, 1}, {2, 1, 1}, {1, 1, 1}, {0, 1, 2}, {2, 2, 0}, {0, 0, 0}, {1, 1, 2}};

    private TermsOfRows() {
    }

    static void hold() {
        rows();
        alike();
        beyondLuck();
        crowd();
        surprised();
        refusals();
        fractions();
    }

    private static NobodyChecks ofPersons(int persons) {
        return Due.asked(Edge.oneCase(1, 50, persons));
    }

    private static void rows() {
        Document.says("======== 4 ROWS (24 at most): an answer (0, 1, or none) of each PERSON (figures of base 3: 2 none; PERSON "
            + "0's lowest), and for each a GUESS (0 to 100: how many hundredths will answer 1), told together as one number of base "
            + "101, or none told.");
        NobodyChecks x = ofPersons(2);
        for (int row = 1; row <= 24; row++) {
            Document.due("row", x.row(row % 9, row % 2 == 0 ? NONE : row), row);
        }
        Document.refused(x, "a 25th", y -> y.row(0, NONE), FULL);
        for (int persons = 2; persons <= 4; persons++) {
            int most = Edge.power(3, persons) - 1;
            long greatest = (long) Edge.power(101, persons) - 1;
            NobodyChecks y = ofPersons(persons);
            Document.due("none answers, all GUESS 100", y.row(most, greatest), 1);
            Document.refused(y, "an answer more", z -> z.row(most + 1, NONE), OUTSIDE);
            Document.refused(y, "a GUESS more", z -> z.row(0, greatest + 1), OUTSIDE);
        }
        // PERSON 0 alone answers 1, then PERSON 2; it is surprised if that one's own GUESS is below 100.
        NobodyChecks z = ofPersons(3);
        z.row((int) Edge.figures(3, 1, 2, 2), Edge.figures(101, 99, 100, 100));
        z.row((int) Edge.figures(3, 1, 2, 2), Edge.figures(101, 100, 0, 0));
        z.row((int) Edge.figures(3, 2, 2, 1), Edge.figures(101, 100, 100, 99));
        z.row((int) Edge.figures(3, 2, 2, 1), Edge.figures(101, 0, 0, 100));
        for (int row = 0; row < 4; row++) {
            Document.due("row " + row + " says", z.crowd(row, 0), 1);
            Document.due("row " + row + " surprises", z.crowd(row, 1), row % 2 == 0 ? 1 : NONE);
        }
    }

    private static NobodyChecks withAnswers() {
        NobodyChecks x = ofPersons(3);
        for (int[] row : ANSWERS) {
            x.row((int) Edge.figures(3, row), NONE);
        }
        return x;
    }

    private static boolean both(int[] row, int i, int j) {
        return row[i] != 2 && row[j] != 2;
    }

    private static Plain.Part alikeOf(int i, int j) {
        int same = 0, answered = 0;
        for (int[] row : ANSWERS) {
            answered += both(row, i, j) ? 1 : 0;
            same += both(row, i, j) && row[i] == row[j] ? 1 : 0;
        }
        return Plain.Part.of(same, answered);
    }

    private static void alike() {
        Document.says("ALIKE of two PERSONS: of ROWS in which both answered the share in which they answered the same.");
        NobodyChecks x = withAnswers();
        // PERSONS 0 and 1 both answered in 7 ROWS, the same in 5.
        Document.due("0 and 1 above", x.alike(0, 1, 0), 5);
        Document.due("0 and 1 below", x.alike(0, 1, 1), 7);
        for (int i = 0; i < 3; i++) {
            for (int j = 0; j < 3; j++) {
                if (i != j) {
                    Document.due(i + " and " + j + " above", x.alike(i, j, 0), alikeOf(i, j).part(0));
                    Document.due(i + " and " + j + " below", x.alike(i, j, 1), alikeOf(i, j).part(1));
                }
            }
        }
    }

    private static void beyondLuck() {
        Document.says("BEYOND LUCK: ALIKE, less the share of like answers over all pairs of two unlike ROWS of these (the one's of "
            + "the one, the other's of the other ROW).");
        NobodyChecks x = withAnswers();
        for (int i = 0; i < 3; i++) {
            for (int j = 0; j < 3; j++) {
                if (i != j) {
                    Plain.Part want = alikeOf(i, j).less(luckOf(i, j));
                    Document.due(i + " and " + j + " above", x.alike(i, j, 2), want.part(0));
                    Document.due(i + " and " + j + " below", x.alike(i, j, 3), want.part(1));
                }
            }
        }
        // Two ROWS told alike are two ROWS: always the same, and no more than luck.
        NobodyChecks y = ofPersons(2);
        y.row(4, NONE);
        y.row(4, NONE);
        Document.due("always the same", y.alike(0, 1, 0), 1);
        Document.due("by luck", y.alike(0, 1, 2), 0);
    }

    private static Plain.Part luckOf(int i, int j) {
        int like = 0, pairs = 0;
        for (int one = 0; one < ANSWERS.length; one++) {
            for (int other = 0; other < ANSWERS.length; other++) {
                if (one != other && both(ANSWERS[one], i, j) && both(ANSWERS[other], i, j)) {
                    pairs++;
                    like += ANSWERS[one][i] == ANSWERS[other][j] ? 1 : 0;
                }
            }
        }
        return Plain.Part.of(like, pairs);
    }

    /** How many of a ROW's answers are so. */
    private static int countOf(int answers, int persons, int answer) {
        int counted = 0;
        for (int person = 0; person < persons; person++) {
            counted += answers / Edge.power(3, person) % 3 == answer ? 1 : 0;
        }
        return counted;
    }

    private static int sideOf(long forOne, long forZero) {
        return forOne > forZero ? 1 : forOne < forZero ? 0 : NONE;
    }

    private static void crowd() {
        Document.says("A CROWD says of a ROW 1, if more answered 1 than 0, 0, if fewer; else nothing.");
        for (int persons = 2; persons <= 4; persons++) {
            for (int answers = 0; answers < Edge.power(3, persons); answers++) {
                NobodyChecks x = ofPersons(persons);
                x.row(answers, NONE);
                Document.due("row(" + answers + ") of " + persons, x.crowd(0, 0),
                    sideOf(countOf(answers, persons, 1), countOf(answers, persons, 0)));
            }
        }
    }

    private static void surprised() {
        Document.says("SURPRISED: of a ROW whose GUESSES were told: 1, if the share of those who answered that answered 1 is above "
            + "the mean of their GUESSES, 0, if it is below; else nothing.");
        int[][] guesses = {{0, 0, 0, 0}, {100, 100, 100, 100}, {50, 50, 50, 50}, {33, 33, 34, 0}, {67, 66, 67, 100},
            {0, 100, 0, 100}, {25, 25, 25, 25}, {49, 51, 49, 52}, {1, 99, 100, 0}};
        for (int persons = 2; persons <= 4; persons++) {
            for (int answers = 0; answers < Edge.power(3, persons); answers++) {
                for (int[] guess : guesses) {
                    surprised(persons, answers, guess);
                }
                NobodyChecks x = ofPersons(persons);
                x.row(answers, NONE);
                Document.due("not told", x.crowd(0, 1), NONE);
            }
        }
    }

    private static void surprised(int persons, int answers, int[] guess) {
        NobodyChecks x = ofPersons(persons);
        x.row(answers, Edge.figures(101, java.util.Arrays.copyOf(guess, persons)));
        int guessed = 0;
        for (int person = 0; person < persons; person++) {
            guessed += answers / Edge.power(3, person) % 3 != 2 ? guess[person] : 0;
        }
        Document.due("row(" + answers + ") of " + persons + ", " + java.util.Arrays.toString(guess), x.crowd(0, 1),
            sideOf(100 * countOf(answers, persons, 1), guessed));
    }

    /** RefusalsTest tries every choice; here one of each for calls that change something. */
    private static void refusals() {
        Document.says("Refusals, of several the first as told by each call: UNKNOWN (a number names nothing), OUTSIDE (it is not as "
            + "told), STATE (as told), FULL; they change nothing.");
        NobodyChecks x = Due.asked("7:80,70,90;3:20,40,10");
        for (int pay = 0; pay < 8; pay++) {
            x.pay(pay % 5, 5, 6, 7, 8);
        }
        for (int row = 0; row < 24; row++) {
            x.row(row, NONE);
        }
        for (int done = 0; done < 10; done++) {
            x.leastTable(done % 5);
        }
        Due.write(x, Edge.many("1", "", 90));
        Document.refused(x, "UNKNOWN ahead of OUTSIDE", y -> y.cost(3, 1000), UNKNOWN);
        Document.refused(x, "OUTSIDE", y -> y.cost(2, 1000), OUTSIDE);
        Document.refused(x, "OUTSIDE ahead of FULL", y -> y.letters(127), OUTSIDE);
        Document.refused(x, "FULL", y -> y.letters(126), FULL);
        Document.refused(x, "OUTSIDE ahead of FULL", y -> y.pay(0, 1000, 0, 0, 0), OUTSIDE);
        Document.refused(x, "FULL", y -> y.pay(0, 999, 0, 0, 0), FULL);
        Document.refused(x, "OUTSIDE ahead of FULL", y -> y.row(27, NONE), OUTSIDE);
        Document.refused(x, "FULL", y -> y.row(26, NONE), FULL);
        Document.refused(x, "OUTSIDE ahead of STATE", y -> y.leastTable(5), OUTSIDE);
        Document.refused(x, "STATE", y -> y.leastTable(4), STATE);
        Document.refused(x, "STATE", y -> y.question(), STATE);
        Document.due("all stays", x.count(4), 90);
    }

    private static void lowest(String call, long above, long below) {
        Document.holds(call + ": " + below + " below is 1 at least", below >= 1);
        Document.holds(call + ": " + above + " of " + below + " in lowest terms", Plain.Part.of(above, below).part(1) == below);
    }

    private static void fractions() {
        Document.says("Fractions are in lowest terms, below 1 at least.");
        for (Sample sample : Sample.ALL) {
            for (int pay = 0; pay < sample.pays(); pay++) {
                for (int profile = 0; profile < sample.profiles(); profile += 3) {
                    lowest("worth", sample.x().worth(pay, profile, 0, 0), sample.x().worth(pay, profile, 0, 1));
                    lowest("gain", sample.x().gain(pay, profile, 1, 0), sample.x().gain(pay, profile, 1, 1));
                }
            }
            if (sample.x().thinks(0, 1, 1, 0) != NONE) {
                lowest("thinks", sample.x().thinks(0, 1, 1, 0), sample.x().thinks(0, 1, 1, 1));
            }
        }
        NobodyChecks x = withAnswers();
        for (int part = 0; part <= 2; part += 2) {
            lowest("alike", x.alike(0, 1, part), x.alike(0, 1, part + 1));
            lowest("alike", x.alike(2, 0, part), x.alike(2, 0, part + 1));
        }
    }
}
