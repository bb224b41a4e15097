/** Promises 20 to 23: leastSame, leastTable, leastLook, mayBe. */
public final class CheapestTest {
    private static final int NONE = NobodyChecks.NONE, UNKNOWN = NobodyChecks.UNKNOWN,
        OUTSIDE = NobodyChecks.OUTSIDE, STATE = NobodyChecks.STATE;

    public static void main(String[] args) {
        leastSame();
        leastTable();
        leastTableRefused();
        leastLook();
        mayBe();
        mayBeRefused();
        Due.end();
    }

    private static NobodyChecks twoWhoSee(int cost) {
        NobodyChecks x = Due.asked("1:100,100;1:0,0");
        x.cost(0, cost);
        x.cost(1, cost);
        return x;
    }

    private static void leastSame() {
        Due.due("no COST", twoWhoSee(0).leastSame(), 0);
        Due.due("COST 3", twoWhoSee(3).leastSame(), 6);
        Due.due("COST 499", twoWhoSee(499).leastSame(), 998);
        Due.due("COST 500", twoWhoSee(500).leastSame(), NONE);
        NobodyChecks blind = Due.asked("1:80,80");
        Due.due("no COST, but 0 lets all rest", blind.leastSame(), 0);
        blind.cost(0, 1);
        Due.due("to look tells nothing", blind.leastSame(), NONE);
        NobodyChecks x = twoWhoSee(3);
        x.pay(1, 5, 0, 0, 0);
        x.pay(1, 6, 0, 0, 0);
        Due.due("5 is too little", x.rests(0, 0, 0), 0);
        Due.due("6 is enough", x.rests(1, 0, 0), 1);
        Due.due("no question", new NobodyChecks().leastSame(), STATE);
    }

    private static void leastTable() {
        // Truth rests if q3 is 6 above q1, and q0 is 6 above q2.
        NobodyChecks x = twoWhoSee(3);
        int[] want = {6, 0, 0, 6, 100};
        for (int what = 0; what <= 4; what++) {
            Due.due("leastTable(" + what + ")", x.leastTable(what), want[what]);
        }
        x.cost(1, 5);
        Due.due("no TABLE up to 9", x.leastTable(0), NONE);
        Due.due("no TABLE up to 9", x.leastTable(4), 0);
        x.cost(1, 0);
        x.cost(0, 0);
        Due.due("no COST: all 0", x.leastTable(3), 0);
        // q3 at least q1, q0 at least q2.
        Due.due("no COST", x.leastTable(4), 55 * 55);
        // Both always see 1: all is got by q3, and q0 and q2 are free.
        NobodyChecks y = Due.asked("1:100,100");
        int[] free = {0, 0, 0, 0, 55 * 100};
        for (int what = 0; what <= 4; what++) {
            Due.due("of like ones the least", y.leastTable(what), free[what]);
        }
    }

    private static void leastTableRefused() {
        NobodyChecks x = new NobodyChecks();
        Due.due("no question", x.leastTable(0), STATE);
        Due.due("no question ahead of OUTSIDE", x.leastTable(5), STATE);
        Due.write(x, "1:100,100;1:0,0");
        x.question();
        Due.due("what 5", x.leastTable(5), OUTSIDE);
        Due.due("what -1", x.leastTable(-1), OUTSIDE);
        Due.due("refusals are not done", x.count(5), 0);
        for (int done = 1; done <= 10; done++) {
            Due.due("leastTable", x.leastTable(0), 0);
            Due.due("done", x.count(5), done);
        }
        Due.due("the eleventh", x.leastTable(0), STATE);
        Due.due("OUTSIDE ahead of the eleventh", x.leastTable(5), OUTSIDE);
        Due.write(x, "1:100,100;1:0,0");
        x.question();
        Due.due("another question does not help", x.leastTable(0), STATE);
        Due.due("ten", x.count(5), 10);
    }

    private static void leastLook() {
        NobodyChecks x = twoWhoSee(3);
        x.pay(4, 0, 77, 30, 100);
        x.pay(4, 0, 0, 3, 100);
        x.pay(4, 6, 50, 0, 0);
        x.pay(1, 6, 0, 0, 0);
        x.pay(4, 0, 0, 6, 100);
        Due.due("a fifth", x.leastLook(0), 20);
        Due.due("its q1 stays", x.about(0, 1), 77);
        Due.due("it pays too little", x.leastLook(1), NONE);
        Due.due("one need not look", x.leastLook(2), 0);
        Due.due("a SAME", x.leastLook(3), STATE);
        Due.due("always", x.leastLook(4), 100);
        Due.due("no such pay", x.leastLook(5), UNKNOWN);
        Due.due("no such pay", x.leastLook(-1), UNKNOWN);
        // What the house sees is wrong: the more it looks, the less truth rests.
        x.cost(0, 0);
        x.cost(1, 0);
        x.pay(4, 10, 0, 900, 0);
        Due.due("without a look", x.leastLook(5), 0);
        NobodyChecks none = new NobodyChecks();
        none.pay(4, 0, 0, 0, 0);
        Due.due("no question", none.leastLook(0), STATE);
        Due.due("no question, no pay", none.leastLook(1), UNKNOWN);
    }

    private static void mayBe() {
        NobodyChecks x = twoWhoSee(3);
        x.pay(1, 10, 0, 0, 0);
        Due.due("e 0", x.mayBe(0, 0), 9);
        Due.due("e 20: just so", x.mayBe(0, 20), 9);
        // Where e more or less is beyond 100 or 0, THE QUESTION is as it is.
        Due.due("e 21", x.mayBe(0, 21), 5);
        Due.due("e 100", x.mayBe(0, 100), 5);
        Due.due("the question stays", x.chance(0, 0), 100);
        Due.due("the question stays", x.chance(1, 1), 0);
        Due.due("worth stays", x.worth(0, 0, 0, 0), 7);
        x.pay(0, 5, 0, 0, 0);
        Due.due("never", x.mayBe(1, 50), 0);
        NobodyChecks four = Due.asked("1:50,50,50,50;2:10,20,30,40;3:1,2,3,4;4:5,6,7,8;5:9,9,9,9");
        four.pay(0, 5, 0, 0, 0);
        Due.due("41 at most", four.mayBe(0, 3), 41);
        // With p for 90 the other one's lead over answering 1 is 41 - 10 p: 31 at 100 hundredths, just enough.
        NobodyChecks most = Due.asked("1:90,90;1:10,10");
        most.pay(1, 100, 0, 0, 0);
        most.cost(0, 31);
        most.cost(1, 31);
        Due.due("100 at most, 0 at least", most.mayBe(0, 20), 5);
    }

    private static void mayBeRefused() {
        NobodyChecks x = new NobodyChecks();
        Due.due("pay", x.mayBe(0, 101), UNKNOWN);
        x.pay(0, 5, 0, 0, 0);
        Due.due("no question", x.mayBe(0, 101), STATE);
        Due.due("pay", x.mayBe(1, 101), UNKNOWN);
        Due.write(x, "1:100,100;1:0,0");
        x.question();
        Due.due("e 101", x.mayBe(0, 101), OUTSIDE);
        Due.due("e -1", x.mayBe(0, -1), OUTSIDE);
        Due.due("e 100", x.mayBe(0, 100), 9);
    }
}
