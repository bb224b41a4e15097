/** Promises 9 to 13: pay, as, about, gets, worth. */
public final class PaysTest {
    private static final int NONE = NobodyChecks.NONE, UNKNOWN = NobodyChecks.UNKNOWN,
        OUTSIDE = NobodyChecks.OUTSIDE, FULL = NobodyChecks.FULL;

    public static void main(String[] args) {
        pay();
        as();
        about();
        gets();
        getsRare();
        worth();
        worthOfCheck();
        worthAtTheEdge();
        worthRefused();
        Due.end();
    }

    private static void pay() {
        NobodyChecks x = new NobodyChecks();
        Due.due("kind -1", x.pay(-1, 0, 0, 0, 0), OUTSIDE);
        Due.due("kind 5", x.pay(5, 0, 0, 0, 0), OUTSIDE);
        for (int kind = 0; kind <= 4; kind++) {
            Due.due("q0 of " + kind, x.pay(kind, 1000, 0, 0, 0), OUTSIDE);
            Due.due("q1 of " + kind, x.pay(kind, 0, 1000, 0, 0), OUTSIDE);
            Due.due("q2 of " + kind, x.pay(kind, 0, 0, 1000, 0), OUTSIDE);
            Due.due("q3 of " + kind, x.pay(kind, 0, 0, 0, 1000), OUTSIDE);
            Due.due("q0 of " + kind, x.pay(kind, -1, 0, 0, 0), OUTSIDE);
            Due.due("q1 of " + kind, x.pay(kind, 0, -1, 0, 0), OUTSIDE);
            Due.due("q2 of " + kind, x.pay(kind, 0, 0, -1, 0), OUTSIDE);
            Due.due("q3 of " + kind, x.pay(kind, 0, 0, 0, Integer.MIN_VALUE), OUTSIDE);
        }
        Due.due("q1 of a CHECK", x.pay(4, 0, 101, 0, 0), OUTSIDE);
        Due.due("q3 of a CHECK", x.pay(4, 0, 0, 0, 101), OUTSIDE);
        Due.due("refusals change nothing", x.count(2), 0);
        Due.due("a CHECK", x.pay(4, 999, 100, 999, 100), 0);
        for (int kind = 0; kind <= 3; kind++) {
            Due.due("greatest numbers of " + kind, x.pay(kind, 999, 999, 999, 999), 1 + kind);
        }
        Due.due("the sixth", x.pay(0, 0, 0, 0, 0), 5);
        Due.due("the seventh", x.pay(0, 0, 0, 0, 0), 6);
        Due.due("the eighth", x.pay(0, 0, 0, 0, 0), 7);
        Due.due("the ninth", x.pay(0, 0, 0, 0, 0), FULL);
        Due.due("OUTSIDE ahead of FULL", x.pay(5, 0, 0, 0, 0), OUTSIDE);
        Due.due("eight", x.count(2), 8);
    }

    private static void as() {
        boolean[][] is = {
            {true, false, false, false, false},
            {true, true, false, false, false},
            {true, false, true, false, false},
            {true, false, true, true, false},
            {true, true, false, false, true}};
        NobodyChecks x = new NobodyChecks();
        for (int kind = 0; kind <= 4; kind++) {
            x.pay(kind, 1, 2, 3, 4);
            for (int asked = 0; asked <= 4; asked++) {
                Due.due(kind + " as " + asked, x.as(kind, asked), is[kind][asked] ? kind : NONE);
            }
            Due.due("as 5", x.as(kind, 5), OUTSIDE);
            Due.due("as -1", x.as(kind, -1), OUTSIDE);
        }
        Due.due("no such pay", x.as(5, 0), UNKNOWN);
        Due.due("no such pay", x.as(-1, 0), UNKNOWN);
        Due.due("UNKNOWN ahead of OUTSIDE", x.as(8, 9), UNKNOWN);
    }

    private static void about() {
        NobodyChecks x = new NobodyChecks();
        for (int kind = 0; kind <= 4; kind++) {
            x.pay(kind, 10 + kind, 20 + kind, 30 + kind, 40 + kind);
            for (int what = 0; what <= 3; what++) {
                Due.due("about(" + kind + ", " + what + ")", x.about(kind, what), 10 * (what + 1) + kind);
            }
            Due.due("kind", x.about(kind, 4), kind);
        }
        Due.due("about 5", x.about(0, 5), OUTSIDE);
        Due.due("about -1", x.about(0, -1), OUTSIDE);
        Due.due("no such pay", x.about(5, 0), UNKNOWN);
        Due.due("UNKNOWN ahead of OUTSIDE", x.about(-1, 5), UNKNOWN);
    }

    private static void gets() {
        NobodyChecks x = Due.asked("1:50,50,50");
        x.pay(0, 5, 6, 7, 8);
        x.pay(1, 5, 6, 7, 8);
        x.pay(2, 5, 6, 7, 8);
        x.pay(4, 5, 6, 7, 8);
        for (int answers = 0; answers < 8; answers++) {
            Due.due("a PAY", x.gets(0, 1, answers), 5);
        }
        Due.due("SAME: all", x.gets(1, 0, 7), 10);
        Due.due("SAME: one other", x.gets(1, 0, 3), 5);
        Due.due("SAME: nobody", x.gets(1, 0, 1), 0);
        Due.due("SAME: all 0", x.gets(1, 2, 0), 10);
        Due.due("TABLE: 0 to 0, 0", x.gets(2, 0, 0), 10);
        Due.due("TABLE: 0 to 1, 0", x.gets(2, 0, 2), 11);
        Due.due("TABLE: 0 to 1, 1", x.gets(2, 0, 6), 12);
        Due.due("TABLE: 1 to 0, 0", x.gets(2, 0, 1), 14);
        Due.due("TABLE: 1 to 1, 0", x.gets(2, 0, 5), 15);
        Due.due("TABLE: 1 to 1, 1", x.gets(2, 0, 7), 16);
        Due.due("CHECK: the house does not look", x.gets(3, 0, 7), 10);
        Due.due("CHECK: nobody", x.gets(3, 0, 1), 0);
        Due.due("answers", x.gets(0, 0, 8), OUTSIDE);
        Due.due("answers", x.gets(0, 0, -1), OUTSIDE);
        Due.due("person", x.gets(0, 3, 0), UNKNOWN);
        Due.due("person", x.gets(0, -1, 0), UNKNOWN);
        Due.due("pay", x.gets(4, 0, 0), UNKNOWN);
        Due.due("UNKNOWN ahead of OUTSIDE", x.gets(0, 3, 8), UNKNOWN);
        NobodyChecks none = new NobodyChecks();
        none.pay(0, 5, 0, 0, 0);
        Due.due("no question, so no person", none.gets(0, 0, 0), UNKNOWN);
    }

    private static void getsRare() {
        NobodyChecks x = Due.asked("1:50,50,50,50");
        x.pay(3, 3, 1, 5, 4);
        Due.due("one of four answers 1", x.gets(0, 0, 1), 15 + 2 * 5);
        Due.due("the others then", x.gets(0, 1, 1), 7);
        Due.due("two of four", x.gets(0, 0, 3), 14);
        Due.due("one of four answers 0", x.gets(0, 3, 7), 3 + 2 * 3);
        Due.due("the others then", x.gets(0, 0, 7), 13);
        Due.due("all", x.gets(0, 2, 15), 12);
        NobodyChecks y = Due.asked("1:50,50,50");
        y.pay(3, 3, 1, 5, 4);
        Due.due("one of three answers 1", y.gets(0, 0, 1), 10 + 5);
        Due.due("one of three answers 0", y.gets(0, 0, 6), 2 + 3);
        NobodyChecks z = Due.asked("1:50,50");
        z.pay(3, 3, 1, 5, 4);
        Due.due("one of two", z.gets(0, 0, 1), 5);
    }

    private static void worthIs(NobodyChecks x, int pay, int profile, int person, long above, long below) {
        String call = "worth(" + pay + ", " + profile + ", " + person + ", ";
        Due.due(call + "0)", x.worth(pay, profile, person, 0), above);
        Due.due(call + "1)", x.worth(pay, profile, person, 1), below);
    }

    private static void worth() {
        NobodyChecks x = Due.asked("1:100,100;1:0,0");
        x.pay(1, 10, 0, 0, 0);
        x.pay(0, 5, 0, 0, 0);
        worthIs(x, 0, 0, 0, 10, 1);
        worthIs(x, 0, 1, 0, 0, 1);
        worthIs(x, 0, 5, 1, 10, 1);
        worthIs(x, 0, 8, 0, 5, 1);
        worthIs(x, 0, 11, 1, 0, 1);
        worthIs(x, 0, 15, 1, 10, 1);
        x.cost(0, 3);
        worthIs(x, 0, 0, 0, 7, 1);
        worthIs(x, 0, 1, 0, -3, 1);
        worthIs(x, 0, 2, 0, 5, 1);
        worthIs(x, 0, 3, 0, 5, 1);
        worthIs(x, 0, 0, 1, 10, 1);
        worthIs(x, 1, 0, 0, 2, 1);
        worthIs(x, 1, 2, 0, 5, 1);
        NobodyChecks y = Due.asked("2:75,40;1:10,20");
        y.pay(2, 1, 2, 3, 4);
        // In parts of 30000: both 1, 0 alone, 1 alone, none.
        long both = 2 * 75 * 40 + 10 * 20, first = 2 * 75 * 60 + 10 * 80;
        long second = 2 * 25 * 40 + 90 * 20, none = 2 * 25 * 60 + 90 * 80;
        long above = 4 * both + 3 * first + 2 * second + none;
        Due.due("worth of a TABLE", y.worth(0, 0, 0, 0) * 30000, above * y.worth(0, 0, 0, 1));
        above = 4 * both + 2 * first + 3 * second + none;
        Due.due("of the other", y.worth(0, 0, 1, 0) * 30000, above * y.worth(0, 0, 1, 1));
    }

    private static void worthOfCheck() {
        NobodyChecks x = Due.asked("1:100,100;1:0,0");
        x.pay(4, 0, 50, 20, 90);
        worthIs(x, 0, 0, 0, 9, 1);
        worthIs(x, 0, 1, 0, 1, 1);
        worthIs(x, 0, 2, 0, 5, 1);
        NobodyChecks tie = Due.asked("1:100,0");
        tie.pay(4, 7, 100, 20, 90);
        // One of two is not most: the house sees 1 with a chance of 10.
        worthIs(tie, 0, 0, 0, 2, 1);
        worthIs(tie, 0, 0, 1, 18, 1);
        worthIs(tie, 0, 15, 0, 9, 1);
        NobodyChecks most = Due.asked("1:100,100,0");
        most.pay(4, 0, 100, 20, 90);
        worthIs(most, 0, 0, 0, 18, 1);
        // What the house sees hangs on SIGNS, not on answers.
        worthIs(most, 0, 42, 0, 2, 1);
    }

    /** The greatest numbers that a WORTH is reckoned from, before it is in lowest terms. */
    private static void worthAtTheEdge() {
        String one = "99:99,99,99,99";
        NobodyChecks x = Due.asked(one + ";" + one + ";" + one + ";" + one + ";" + one);
        x.pay(4, 999, 100, 999, 100);
        x.pay(3, 999, 999, 999, 999);
        x.pay(0, 0, 0, 0, 0);
        // 2997 for the others, 999 in 99^4 + 4 * 99^3 parts of 100^4: then three SIGNS at least are 1.
        worthIs(x, 0, 255, 0, 399540856203L, 100000000L);
        worthIs(x, 0, 255, 3, 399540856203L, 100000000L);
        worthIs(x, 1, 255, 0, 2997, 1);
        // The rarest gets 3 times 999, and 2 times more.
        worthIs(x, 1, 254, 0, 4995, 1);
        x.cost(0, 999);
        worthIs(x, 2, 0, 0, -999, 1);
        worthIs(x, 2, 2, 0, 0, 1);
    }

    private static void worthRefused() {
        NobodyChecks x = Due.asked("1:50,50");
        x.pay(0, 5, 0, 0, 0);
        long unknown = -2000000000000000001L, outside = -2000000000000000002L;
        Due.due("pay", x.worth(1, 0, 0, 0), unknown);
        Due.due("pay", x.worth(-1, 0, 0, 0), unknown);
        Due.due("person", x.worth(0, 0, 2, 0), unknown);
        Due.due("person", x.worth(0, 0, -1, 0), unknown);
        Due.due("profile", x.worth(0, 16, 0, 0), outside);
        Due.due("profile", x.worth(0, -1, 0, 0), outside);
        Due.due("part", x.worth(0, 0, 0, 2), outside);
        Due.due("part", x.worth(0, 0, 0, -1), outside);
        Due.due("UNKNOWN first", x.worth(0, 16, 2, 2), unknown);
        NobodyChecks none = new NobodyChecks();
        none.pay(0, 5, 0, 0, 0);
        Due.due("no question, so no person", none.worth(0, 0, 0, 0), unknown);
    }
}
