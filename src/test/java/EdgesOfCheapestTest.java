/** The boundary cases of the cheapest PAYS and of promises 20 to 23: a method for each sentence. */
public final class EdgesOfCheapestTest {
    private static final int NONE = NobodyChecks.NONE, UNKNOWN = NobodyChecks.UNKNOWN,
        OUTSIDE = NobodyChecks.OUTSIDE, STATE = NobodyChecks.STATE;

    public static void main(String[] args) {
        leastSame();
        leastSameIsLeast();
        leastSameRefused();
        tablesToNine();
        tablesOfLikeOnes();
        howManyTables();
        tableRefused();
        doneTenTimes();
        leastLook();
        allElseAsItIs();
        noCheck();
        byTrial();
        oneAfterAnother();
        mayBeAtLeast();
        mayBeAtMost();
        howManyMayBe();
        mayBeRefused();
        Due.end();
    }

    private static NobodyChecks allSee(int weightOfOne, int weightOfZero, int persons, int cost) {
        return Edge.withCost(Edge.allSee(weightOfOne, weightOfZero, persons), cost);
    }

    private static void leastSame() {
        Edge.says("LEAST SAME: the least q0 (0 to 999) by which a SAME lets truth rest .. NONE: there is none.");
        Edge.due("0: no COST", allSee(1, 1, 2, 0).leastSame(), 0);
        // Truth leads by a half of q0 for each other one; where 0 is so in one of three, by a third.
        Edge.due("2", allSee(1, 1, 2, 1).leastSame(), 2);
        Edge.due("998", allSee(1, 1, 2, 499).leastSame(), 998);
        Edge.due("1000 would do", allSee(1, 1, 2, 500).leastSame(), NONE);
        Edge.due("996", allSee(2, 1, 2, 332).leastSame(), 996);
        Edge.due("999", allSee(2, 1, 2, 333).leastSame(), 999);
        Edge.due("1002 would do", allSee(2, 1, 2, 334).leastSame(), NONE);
        Edge.due("1 for three others", allSee(2, 1, 4, 1).leastSame(), 1);
        Edge.due("999 for three others", allSee(2, 1, 4, 999).leastSame(), 999);
        Edge.due("the COST of one alone", oneLooksDear(333).leastSame(), 999);
        Edge.due("the COST of one alone", oneLooksDear(334).leastSame(), NONE);
        // To look tells nothing about others: no SAME helps against the least COST.
        NobodyChecks blind = Due.asked("1:50,50");
        Edge.due("0", blind.leastSame(), 0);
        blind.cost(1, 1);
        Edge.due("none", blind.leastSame(), NONE);
    }

    private static NobodyChecks oneLooksDear(int cost) {
        NobodyChecks x = allSee(2, 1, 2, 0);
        x.cost(1, cost);
        return x;
    }

    private static void leastSameIsLeast() {
        Edge.says("TRUTH RESTS under a PAY, if the PROFILE all TRUE is at rest.");
        int[] costs = {1, 2, 10, 333};
        for (int cost : costs) {
            NobodyChecks x = allSee(2, 1, 3, cost);
            int least = x.leastSame();
            x.pay(1, least - 1, 0, 0, 0);
            x.pay(1, least, 0, 0, 0);
            Edge.due("one less does not", x.rests(0, 0, 0), 0);
            Edge.due("the least does", x.rests(1, 0, 0), 1);
        }
        // One who sees nothing but 1 is as well off unseen: TRUE rests at no COST.
        NobodyChecks ones = Due.asked("1:100,100");
        Edge.due("at no COST", ones.leastSame(), 0);
        ones.cost(0, 1);
        Edge.due("at a COST", ones.leastSame(), NONE);
    }

    private static void leastSameRefused() {
        Edge.says("leastSame STATE: there is no QUESTION.");
        NobodyChecks x = new NobodyChecks();
        Edge.refused(x, "no QUESTION", NobodyChecks::leastSame, STATE);
        Due.write(x, "1:100,100");
        Edge.refused(x, "not yet", NobodyChecks::leastSame, STATE);
        x.question();
        Edge.due("then", x.leastSame(), 0);
    }

    private static void leastTableIs(NobodyChecks x, int... numbers) {
        for (int what = 0; what <= 4; what++) {
            Edge.due("leastTable(" + what + ")", x.leastTable(what), numbers[what]);
        }
    }

    private static void tablesToNine() {
        Edge.says("LEAST TABLE: of all TABLES with q0 to q3 from 0 to 9 by which truth rests");
        // Truth rests if q3 - q1 and q0 - q2 are twice the COST at least.
        leastTableIs(allSee(1, 1, 2, 0), 0, 0, 0, 0, 55 * 55);
        leastTableIs(allSee(1, 1, 2, 1), 2, 0, 0, 2, 36 * 36);
        leastTableIs(allSee(1, 1, 2, 4), 8, 0, 0, 8, 3 * 3);
        leastTableIs(allSee(1, 1, 2, 5), NONE, NONE, NONE, NONE, 0);
        // Where 0 is so in one of three: q0 - q2 must be 9, q3 - q1 four and a half.
        leastTableIs(allSee(2, 1, 2, 3), 9, 0, 0, 5, 15);
        leastTableIs(allSee(1, 2, 2, 3), 5, 0, 0, 9, 15);
        leastTableIs(allSee(2, 1, 2, 4), NONE, NONE, NONE, NONE, 0);
        // What one sees the other one does not: q1 and q2 take their places.
        NobodyChecks unlike = Edge.withCost(Due.asked("2:100,0;1:0,100"), 3);
        leastTableIs(unlike, 0, 9, 9, 0, 1);
        unlike = Edge.withCost(Due.asked("2:100,0;1:0,100"), 4);
        leastTableIs(unlike, NONE, NONE, NONE, NONE, 0);
    }

    private static void tablesOfLikeOnes() {
        Edge.says("all together get least on an average by truth; of like ones of least q0, then q1, q2, q3");
        // All always see 1: by truth they get q3 alone, and q0 and q2 may be what they like.
        leastTableIs(Due.asked("1:100,100"), 0, 0, 0, 0, 55 * 100);
        leastTableIs(Due.asked("1:0,0,0"), 0, 0, 0, 0, 55 * 100);
        // One sees always 0, the other one always 1: by truth they get q1 and q2.
        leastTableIs(Due.asked("1:0,100"), 0, 0, 0, 0, 55 * 55);
        // To look tells nothing: q0 and q1 together must be as much as q2 and q3, 670 TABLES of 10000.
        leastTableIs(Due.asked("1:50,50"), 0, 0, 0, 0, 670);
    }

    private static void howManyTables() {
        Edge.says("4 how many TABLES of these let truth rest; NONE (0 to 3): none does.");
        NobodyChecks blind = Due.asked("1:50,50");
        blind.cost(0, 1);
        leastTableIs(blind, NONE, NONE, NONE, NONE, 0);
    }

    private static void tableRefused() {
        Edge.says("STATE: there is no QUESTION; OUTSIDE; STATE, too: it was done 10 times.");
        NobodyChecks x = new NobodyChecks();
        Edge.refused(x, "no QUESTION", y -> y.leastTable(0), STATE);
        Edge.refused(x, "no QUESTION, what 5", y -> y.leastTable(5), STATE);
        Due.write(x, "1:100,100");
        x.question();
        int[] wrong = {-1, 5, Integer.MIN_VALUE, Integer.MAX_VALUE};
        for (int what : wrong) {
            Edge.refused(x, "what " + what, y -> y.leastTable(what), OUTSIDE);
        }
        Edge.due("none was done", x.count(5), 0);
    }

    private static void doneTenTimes() {
        Edge.says("STATE, too: it was done 10 times");
        NobodyChecks x = allSee(1, 1, 2, 5);
        for (int done = 0; done < 10; done++) {
            Edge.due("done", x.count(5), done);
            // To find none is to do it, too.
            Edge.due("leastTable", x.leastTable(done % 5), done % 5 == 4 ? 0 : NONE);
            Edge.refused(x, "what 5", y -> y.leastTable(5), OUTSIDE);
        }
        Edge.due("ten", x.count(5), 10);
        for (int what = 0; what <= 4; what++) {
            int w = what;
            Edge.refused(x, "the eleventh", y -> y.leastTable(w), STATE);
        }
        Edge.refused(x, "the eleventh, what 5", y -> y.leastTable(5), OUTSIDE);
        Edge.refused(x, "the eleventh, what -1", y -> y.leastTable(-1), OUTSIDE);
        Edge.due("another object", allSee(1, 1, 2, 0).leastTable(4), 55 * 55);
    }

    private static int leastLookAt(int cost, int q0, int q1, int q2, int q3) {
        NobodyChecks x = allSee(1, 1, 2, cost);
        x.pay(4, q0, q1, q2, q3);
        int least = x.leastLook(0);
        Edge.due("its numbers stay", x.about(0, 1), q1);
        Edge.due("nothing is added", x.count(2), 1);
        return least;
    }

    private static void leastLook() {
        Edge.says("LEAST LOOK: of a CHECK the least q1 (0 to 100) by which truth rests .. NONE: there is none.");
        // With q2 200 truth leads by q1.
        Edge.due("0: no COST", leastLookAt(0, 0, 50, 200, 100), 0);
        Edge.due("1", leastLookAt(1, 0, 50, 200, 100), 1);
        Edge.due("99", leastLookAt(99, 0, 0, 200, 100), 99);
        Edge.due("100", leastLookAt(100, 0, 0, 200, 100), 100);
        Edge.due("101 would do", leastLookAt(101, 0, 0, 200, 100), NONE);
        Edge.due("q2 0", leastLookAt(1, 0, 100, 0, 100), NONE);
        Edge.due("one hundredth more", leastLookAt(100, 0, 0, 199, 100), NONE);
        Edge.due("rounded up", leastLookAt(3, 0, 100, 7, 100), 86);
    }

    private static void allElseAsItIs() {
        Edge.says("LEAST LOOK .. all else as it is");
        // As a SAME of 10 it leads by 5; the rest must come from a look.
        Edge.due("a SAME does it", leastLookAt(5, 10, 100, 200, 100), 0);
        Edge.due("one is left", leastLookAt(6, 10, 100, 200, 100), 1);
        Edge.due("100 are left", leastLookAt(105, 10, 0, 200, 100), 100);
        Edge.due("101 are left", leastLookAt(106, 10, 0, 200, 100), NONE);
        // A house that sees nothing, or what is not so, does not help.
        Edge.due("q3 50", leastLookAt(1, 0, 100, 999, 50), NONE);
        // One hundredth above a half: q1 leads by 999 of 10000.
        Edge.due("q3 51", leastLookAt(1, 0, 100, 999, 51), 11);
        Edge.due("q3 51", leastLookAt(10, 0, 100, 999, 51), NONE);
        Edge.due("q3 60", leastLookAt(99, 0, 100, 999, 60), 100);
        Edge.due("q3 0", leastLookAt(1, 0, 100, 999, 0), NONE);
        Edge.due("q3 0, without a look", leastLookAt(5, 10, 100, 999, 0), 0);
    }

    private static void noCheck() {
        Edge.says("leastLook UNKNOWN: pay; STATE: there is no QUESTION, or it is no CHECK.");
        NobodyChecks x = new NobodyChecks();
        Edge.refused(x, "no PAY", y -> y.leastLook(0), UNKNOWN);
        for (int kind = 0; kind <= 4; kind++) {
            x.pay(kind, 1, 1, 1, 1);
        }
        for (int pay = 0; pay <= 4; pay++) {
            int p = pay;
            Edge.refused(x, "no QUESTION", y -> y.leastLook(p), STATE);
        }
        Edge.refused(x, "no QUESTION, no PAY", y -> y.leastLook(5), UNKNOWN);
        Due.write(x, "1:100,100");
        x.question();
        for (int pay = 0; pay <= 3; pay++) {
            int p = pay;
            Edge.refused(x, "KIND " + p, y -> y.leastLook(p), STATE);
        }
        Edge.due("a CHECK", x.leastLook(4), 0);
        Edge.refused(x, "a PAY more", y -> y.leastLook(5), UNKNOWN);
        Edge.refused(x, "a PAY less", y -> y.leastLook(-1), UNKNOWN);
    }

    private static int restsByPay(String text, int cost, int kind, int... q) {
        NobodyChecks x = Edge.withCost(Due.asked(text), cost);
        x.pay(kind, q[0], q[1], q[2], q[3]);
        return x.rests(0, 0, 0);
    }

    /** The first number from 0 to most that lets truth rest, each told as a PAY of its own. */
    private static int firstByTrial(String text, int cost, int kind, int place, int most, int... q) {
        for (int number = 0; number <= most; number++) {
            q[place] = number;
            if (restsByPay(text, cost, kind, q) == 1) {
                return number;
            }
        }
        return NONE;
    }

    private static void byTrial() {
        Edge.says("by which truth rests: found by one trial after another");
        // Leads of one least part: 1 times 33 times 2 is 1 less than 1 times 67.
        String[] texts = {"1:1,33", "1:1,67", "3:90,20;2:30,85", "1:99,1,50;1:1,99,50", "2:80,70,60;1:30,20,10"};
        int[] costs = {0, 0, 1, 1, 1};
        for (int k = 0; k < texts.length; k++) {
            NobodyChecks x = Edge.withCost(Due.asked(texts[k]), costs[k]);
            x.pay(4, 2, 0, 60, 95);
            Edge.due("LEAST SAME of " + texts[k], x.leastSame(), firstByTrial(texts[k], costs[k], 1, 0, 999, 0, 0, 0, 0));
            Edge.due("LEAST LOOK of " + texts[k], x.leastLook(0), firstByTrial(texts[k], costs[k], 4, 1, 100, 2, 0, 60, 95));
            tableByTrial(texts[k], costs[k]);
        }
    }

    private static void tableByTrial(String text, int cost) {
        int many = 0;
        long least = 0;
        int[] want = {NONE, NONE, NONE, NONE, 0};
        for (int number = 0; number < 10000; number++) {
            int[] q = {number / 1000, number / 100 % 10, number / 10 % 10, number % 10};
            NobodyChecks x = Edge.withCost(Due.asked(text), cost);
            x.pay(2, q[0], q[1], q[2], q[3]);
            if (x.rests(0, 0, 0) == 1) {
                long price = 0;
                for (int person = 0; person < x.count(1); person++) {
                    // Six weights or fewer, and 100 for each PERSON: a part of 6 000 000 is whole.
                    price += x.worth(0, 0, person, 0) * (6L * 5 * 1000000 / x.worth(0, 0, person, 1));
                }
                if (many == 0 || price < least) {
                    least = price;
                    System.arraycopy(q, 0, want, 0, 4);
                }
                many++;
            }
        }
        want[4] = many;
        leastTableIs(Edge.withCost(Due.asked(text), cost), want);
    }

    private static void oneAfterAnother() {
        Edge.says("LEAST SAME, LEAST TABLE, LEAST LOOK, MAY BE: none changes what another one answers");
        Edge.Call[] calls = {y -> y.leastSame(), y -> y.leastTable(0), y -> y.leastTable(4), y -> y.leastLook(0),
            y -> y.leastLook(1), y -> y.mayBe(2, 9), y -> y.mayBe(0, 40), y -> y.worth(2, 0, 1, 0)};
        // Of one all is dear, of the other one nothing is.
        String[] texts = {"2:90,80,85;1:10,15,20", "1:100,100"};
        for (int k = 0; k < texts.length; k++) {
            for (Edge.Call first : calls) {
                for (Edge.Call second : calls) {
                    NobodyChecks x = withPays(texts[k], 1 - k), y = withPays(texts[k], 1 - k);
                    first.on(x);
                    Edge.due("one behind another", second.on(x), second.on(y));
                }
            }
        }
    }

    private static NobodyChecks withPays(String text, int cost) {
        NobodyChecks x = Edge.withCost(Due.asked(text), cost);
        x.pay(4, 1, 0, 40, 90);
        x.pay(4, 0, 100, 4, 80);
        x.pay(2, 9, 1, 0, 7);
        return x;
    }

    /** Both see alike; truth leads by 100 times a part that hangs on the CHANCES. */
    private static NobodyChecks sameOfHundred(String text, int cost) {
        NobodyChecks x = Edge.withCost(Due.asked(text), cost);
        x.pay(1, 100, 0, 0, 0);
        return x;
    }

    private static void mayBeAtLeast() {
        Edge.says("with that one CHANCE e hundredths less (0 at least)");
        int[] e = {0, 1, 4, 5, 6, 50, 100};
        int[] costs = {40, 44, 45, 46, 47, 48, 49, 50};
        for (int cost : costs) {
            for (int less : e) {
                NobodyChecks x = sameOfHundred("1:100,100;1:5,5", cost);
                Edge.due("COST " + cost + ", e " + less, x.mayBe(0, less), howMany("100,100;5,5", less, cost));
                Edge.due("THE QUESTION stays", x.chance(1, 0), 5);
            }
        }
    }

    private static void mayBeAtMost() {
        Edge.says("and e more (100 at most)");
        int[] e = {0, 1, 4, 5, 6, 50, 100};
        int[] costs = {40, 44, 45, 46, 47, 48, 49, 50};
        for (int cost : costs) {
            for (int more : e) {
                NobodyChecks x = sameOfHundred("1:95,95;1:0,0", cost);
                Edge.due("COST " + cost + ", e " + more, x.mayBe(0, more), howMany("95,95;0,0", more, cost));
            }
        }
    }

    /** The same once more: each QUESTION that may be told as a text of its own. */
    private static int howMany(String chances, int e, int cost) {
        String[] cases = chances.split(";");
        int counted = sameOfHundred("1:" + cases[0] + ";1:" + cases[1], cost).rests(0, 0, 0);
        for (int c = 0; c < 2; c++) {
            for (int person = 0; person < 2; person++) {
                for (int side = -1; side <= 1; side += 2) {
                    int[][] all = new int[2][2];
                    for (int k = 0; k < 4; k++) {
                        all[k / 2][k % 2] = Integer.parseInt(cases[k / 2].split(",")[k % 2]);
                    }
                    all[c][person] = Math.max(0, Math.min(100, all[c][person] + side * e));
                    String text = "1:" + all[0][0] + "," + all[0][1] + ";1:" + all[1][0] + "," + all[1][1];
                    counted += sameOfHundred(text, cost).rests(0, 0, 0);
                }
            }
        }
        return counted;
    }

    private static void howManyMayBe() {
        Edge.says("MAY BE: THE QUESTION as it is, and, for each CASE and PERSON .. in how many of these");
        for (int cases = 1; cases <= 5; cases++) {
            for (int persons = 2; persons <= 4; persons++) {
                NobodyChecks x = Due.asked(Edge.many(Edge.oneCase(1, 50, persons), ";", cases));
                x.pay(0, 7, 0, 0, 0);
                int all = 1 + 2 * cases * persons;
                Edge.due("e 0", x.mayBe(0, 0), all);
                Edge.due("e 1", x.mayBe(0, 1), all);
                Edge.due("e 100", x.mayBe(0, 100), all);
                x.cost(persons - 1, 1);
                Edge.due("none", x.mayBe(0, 0), 0);
                Edge.due("none", x.mayBe(0, 100), 0);
            }
        }
        // At the line: truth rests as it is, and where the CHANCE stays or the other one's lead grows.
        NobodyChecks line = Edge.withCost(Edge.allSee(1, 1, 2), 50);
        line.pay(1, 100, 0, 0, 0);
        Edge.due("as it is", line.mayBe(0, 0), 9);
        Edge.due("e 1 beyond the end is as it is", line.mayBe(0, 1), 5);
    }

    private static void mayBeRefused() {
        Edge.says("MAY BE with e (0 to 100): how many. UNKNOWN: pay; STATE: there is no QUESTION; OUTSIDE.");
        NobodyChecks x = new NobodyChecks();
        Edge.refused(x, "no PAY", y -> y.mayBe(0, 0), UNKNOWN);
        Edge.refused(x, "no PAY, e 101", y -> y.mayBe(0, 101), UNKNOWN);
        x.pay(0, 7, 0, 0, 0);
        Edge.refused(x, "no QUESTION", y -> y.mayBe(0, 0), STATE);
        Edge.refused(x, "no QUESTION, e 101", y -> y.mayBe(0, 101), STATE);
        Due.write(x, "1:50,50");
        x.question();
        int[] wrong = {-1, 101, Integer.MIN_VALUE, Integer.MAX_VALUE};
        for (int e : wrong) {
            Edge.refused(x, "e " + e, y -> y.mayBe(0, e), OUTSIDE);
            Edge.refused(x, "a PAY more, e " + e, y -> y.mayBe(1, e), UNKNOWN);
        }
        Edge.refused(x, "a PAY less", y -> y.mayBe(-1, 0), UNKNOWN);
        Edge.due("e 0", x.mayBe(0, 0), 5);
        Edge.due("e 100", x.mayBe(0, 100), 5);
    }
}
