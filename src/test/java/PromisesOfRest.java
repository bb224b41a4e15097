/** Promises 14 to 23 of the document: at rest, and the cheapest. */
final class PromisesOfRest {
    private static final int NONE = NobodyChecks.NONE, UNKNOWN = NobodyChecks.UNKNOWN, OUTSIDE = NobodyChecks.OUTSIDE,
        STATE = NobodyChecks.STATE;
    private static final int[] WRONG = {-1, Integer.MIN_VALUE, Integer.MAX_VALUE};

    private PromisesOfRest() {
    }

    static void hold() {
        rests();
        gain();
        all();
        group();
        goes();
        drawn();
        leastSame();
        leastTable();
        leastLook();
        mayBe();
    }

    /** Two who see what is so, a COST of 4, a SAME of 10, a PAY of 7, a CHECK. */
    private static NobodyChecks sample() {
        NobodyChecks x = Edge.withCost(Edge.allSee(1, 1, 2), 4);
        x.pay(1, 10, 0, 0, 0);
        x.pay(0, 7, 0, 0, 0);
        x.pay(4, 0, 0, 20, 100);
        return x;
    }

    private static NobodyChecks withoutQuestion() {
        NobodyChecks x = new NobodyChecks();
        x.pay(4, 10, 0, 0, 0);
        return x;
    }

    /** What is told ahead of the calls about PROFILES at rest. */
    static void refusals() {
        NobodyChecks x = sample(), none = withoutQuestion();
        String[] names = {"rests", "all", "group", "goes"};
        int[] nextWhat = {3, 2, 2, 3};
        Call[] calls = {(y, pay, profile, what) -> y.rests(pay, profile, what), (y, pay, profile, what) -> y.all(pay, what),
            (y, pay, profile, what) -> y.group(pay, profile, what), (y, pay, profile, what) -> y.goes(pay, profile, what)};
        for (int k = 0; k < calls.length; k++) {
            Call call = calls[k];
            for (int wrong : WRONG) {
                Document.refused(x, names[k] + ": pay", y -> call.on(y, wrong, 0, 0), UNKNOWN);
                Document.refused(x, names[k] + ": pay, what", y -> call.on(y, wrong, 0, -1), UNKNOWN);
                Document.refused(none, names[k] + ": pay, QUESTION", y -> call.on(y, wrong, 0, 0), UNKNOWN);
                Document.refused(none, names[k] + ": QUESTION, what", y -> call.on(y, 0, wrong, wrong), STATE);
                Document.refused(x, names[k] + ": what", y -> call.on(y, 0, 0, wrong), OUTSIDE);
            }
            Document.refused(x, names[k] + ": the next pay", y -> call.on(y, 3, 0, 0), UNKNOWN);
            Document.refused(none, names[k] + ": QUESTION", y -> call.on(y, 0, 0, 0), STATE);
            int next = nextWhat[k];
            Document.refused(x, names[k] + ": the next what", y -> call.on(y, 0, 0, next), OUTSIDE);
            for (int wrong : new int[] {-1, 16, Integer.MIN_VALUE, Integer.MAX_VALUE}) {
                if (k != 1) {
                    Document.refused(x, names[k] + ": profile", y -> call.on(y, 0, wrong, 0), OUTSIDE);
                }
            }
        }
        Document.refused(x, "drawn: pay", y -> y.drawn(3), UNKNOWN);
        Document.refused(none, "drawn: QUESTION", y -> y.drawn(0), STATE);
        Document.refused(none, "drawn: pay, QUESTION", y -> y.drawn(1), UNKNOWN);
    }

    private interface Call {
        long on(NobodyChecks x, int pay, int profile, int what);
    }

    private static void rests() {
        Document.heads("## Promise 14: rests `int rests(int pay, int profile, int what)`:");
        Document.says("Of a PROFILE: what = 0 whether it is at rest (1, 0), 1 FIRST (NONE), 2 BEST of that (NONE).");
        NobodyChecks x = sample();
        // Beside one who is TURNED to answer 0 is WORTH 5, to be TURNED as well 10 less 4.
        int[] resting = {1, NONE, NONE}, besideTurned = {0, 0, 1}, oneAlone = {0, 1, 2};
        for (int what = 0; what <= 2; what++) {
            Document.due("truth: " + what, x.rests(0, 0, what), resting[what]);
            Document.due("both answer 1: " + what, x.rests(0, 15, what), resting[what]);
            Document.due("0 answers 0, 1 is TURNED: " + what, x.rests(0, 6, what), besideTurned[what]);
        }
        x.cost(0, 0);
        for (int what = 0; what <= 2; what++) {
            Document.due("1 alone pays for its look: " + what, x.rests(1, 0, what), oneAlone[what]);
        }
    }

    private static void gain() {
        Document.heads("## Promise 15: gain `long gain(int pay, int profile, int person, int part)`:");
        Document.says("GAIN of a PERSON: part 0 above, 1 below.");
        NobodyChecks x = Due.asked("3:80,50;1:20,0");
        x.pay(1, 1, 0, 0, 0);
        // PERSON 1 sees 1 in 15000 of 40000, both see the same in 23000: to answer 0 is WORTH 25000 of 40000.
        Document.due("above", x.gain(0, 0, 0, 0), 1);
        Document.due("below", x.gain(0, 0, 0, 1), 20);
        Document.due("who rests", x.gain(0, 2, 0, 0), 0);
        Document.due("who rests, below", x.gain(0, 2, 0, 1), 1);
        Document.says("UNKNOWN: pay, person; OUTSIDE: profile, part.");
        for (int wrong : new int[] {-1, 2, Integer.MIN_VALUE, Integer.MAX_VALUE}) {
            Document.refused(x, "pay", y -> y.gain(wrong, 0, 0, 0), UNKNOWN);
            Document.refused(x, "person", y -> y.gain(0, 0, wrong, 0), UNKNOWN);
            Document.refused(x, "person, profile, part", y -> y.gain(0, 16, wrong, 2), UNKNOWN);
            Document.refused(x, "part", y -> y.gain(0, 0, 0, wrong), OUTSIDE);
        }
        for (int wrong : new int[] {-1, 16, Integer.MIN_VALUE, Integer.MAX_VALUE}) {
            Document.refused(x, "profile", y -> y.gain(0, wrong, 0, 0), OUTSIDE);
        }
        Document.refused(withoutQuestion(), "nobody is a PERSON", y -> y.gain(0, 0, 0, 0), UNKNOWN);
    }

    private static void all() {
        Document.heads("## Promise 16: all `int all(int pay, int what)`:");
        Document.says("How many RESTS (what = 0), RICHER (1), the i-th of RESTS: 10 and i (NONE).");
        NobodyChecks x = sample();
        Document.due("RESTS", x.all(0, 0), 4);
        Document.due("RICHER", x.all(0, 1), 2);
        int[] rests = {0, 5, 10, 15};
        for (int i = 0; i < 90; i++) {
            Document.due("the " + i + "th", x.all(0, 10 + i), i < 4 ? rests[i] : NONE);
        }
        Document.says("OUTSIDE: what (10 to 99 else).");
        for (int what = -20; what <= 120; what++) {
            boolean isOne = what == 0 || what == 1 || what >= 10 && what <= 99;
            Document.due("what " + what, x.all(0, what) == OUTSIDE ? 1 : 0, isOne ? 0 : 1);
        }
    }

    private static void group() {
        Document.heads("## Promise 17: group `int group(int pay, int profile, int what)`:");
        Document.says("THE SMALLEST GROUP that GAINS: what = 0 its PERSONS as bits, 1 the PROFILE that comes of it;");
        NobodyChecks x = sample();
        Document.due("both", x.group(0, 0, 0), 3);
        Document.due("both answer 0 then", x.group(0, 0, 1), 10);
        // Beside one who answers 0 a PERSON that looks is WORTH 5 less 4, to answer 0 as well 10.
        Document.due("0 alone", x.group(0, 8, 0), 1);
        Document.due("0 answers 0 then", x.group(0, 8, 1), 10);
        Document.due("0 alone beside truth", x.group(0, 2, 0), 1);
        Document.due("0 is TRUE then", x.group(0, 2, 1), 0);
        x.cost(1, 6);
        Document.due("1 alone, who looks too dear", x.group(0, 0, 0), 2);
        Document.due("1 answers 0 then", x.group(0, 0, 1), 8);
        x.cost(1, 4);
        Document.says("NONE: none does.");
        for (int what = 0; what <= 1; what++) {
            Document.due("both answer 0", x.group(0, 10, what), NONE);
            Document.due("both answer 1", x.group(0, 15, what), NONE);
        }
    }

    private static void goes() {
        Document.heads("## Promise 18: goes `int goes(int pay, int profile, int what)`:");
        Document.says("GOES: what = 0 LAST, 1 steps, 2 whether it goes ROUND (1, 0).");
        NobodyChecks x = sample();
        int[][] want = {{0, 0, 0}, {0, 1, 0}, {10, 2, 0}};
        int[] pays = {0, 0, 1}, starts = {0, 1, 0};
        for (int k = 0; k < 3; k++) {
            for (int what = 0; what <= 2; what++) {
                Document.due("PAY " + pays[k] + " from " + starts[k], x.goes(pays[k], starts[k], what), want[k][what]);
            }
        }
    }

    private static void drawn() {
        Document.heads("## Promise 19: drawn `int drawn(int pay)`:");
        Document.says("DRAWN.");
        NobodyChecks x = sample();
        // If PERSON 1 is TRUE, PERSON 0 becomes TRUE, whatever it is.
        Document.due("SAME", x.drawn(0), 4);
        Document.due("PAY", x.drawn(1), 0);
        NobodyChecks free = Due.asked("1:50,50,50,50");
        free.pay(0, 7, 0, 0, 0);
        Document.due("all rest where they are", free.drawn(0), 1);
        Document.says("UNKNOWN; STATE.");
        Document.refused(x, "pay", y -> y.drawn(3), UNKNOWN);
        Document.refused(x, "pay", y -> y.drawn(-1), UNKNOWN);
        Document.refused(withoutQuestion(), "pay, QUESTION", y -> y.drawn(1), UNKNOWN);
        Document.refused(withoutQuestion(), "QUESTION", y -> y.drawn(0), STATE);
    }

    private static void leastSame() {
        Document.heads("## Promise 20: leastSame `int leastSame()`:");
        Document.says("LEAST SAME; NONE: there is none.");
        Document.due("twice the COST", sample().leastSame(), 8);
        Document.due("no COST", Edge.allSee(1, 1, 2).leastSame(), 0);
        Document.due("twice 999", Edge.withCost(sample(), 999).leastSame(), NONE);
        Document.says("STATE: there is no QUESTION.");
        Document.refused(withoutQuestion(), "leastSame", y -> y.leastSame(), STATE);
    }

    private static void leastTable() {
        Document.heads("## Promise 21: leastTable `int leastTable(int what)`:");
        Document.says("LEAST TABLE: what = 0 to 3 its numbers, 4 how many TABLES of these let truth rest;");
        NobodyChecks x = sample();
        // q0 - q2 and q3 - q1 are 8 at least: three ways each.
        int[] want = {8, 0, 0, 8, 9};
        for (int what = 0; what <= 4; what++) {
            Document.due("what " + what, x.leastTable(what), want[what]);
        }
        Document.says("NONE (0 to 3): none does.");
        NobodyChecks dear = Edge.withCost(sample(), 5);
        for (int what = 0; what <= 4; what++) {
            Document.due("what " + what, dear.leastTable(what), what == 4 ? 0 : NONE);
        }
        Document.says("STATE: there is no QUESTION; OUTSIDE;");
        for (int wrong : new int[] {-1, 5, Integer.MIN_VALUE, Integer.MAX_VALUE}) {
            Document.refused(withoutQuestion(), "QUESTION, what", y -> y.leastTable(wrong), STATE);
            Document.refused(x, "what", y -> y.leastTable(wrong), OUTSIDE);
        }
        Document.refused(withoutQuestion(), "QUESTION", y -> y.leastTable(0), STATE);
        Document.says("STATE, too: it was done 10 times.");
        Document.due("done", x.count(5), 5);
        for (int what = 0; what <= 4; what++) {
            Document.due("what " + what, x.leastTable(what), want[what]);
        }
        for (int what = 0; what <= 4; what++) {
            int again = what;
            Document.refused(x, "what " + what, y -> y.leastTable(again), STATE);
        }
        Document.refused(x, "OUTSIDE ahead of it", y -> y.leastTable(5), OUTSIDE);
        Document.due("done", x.count(5), 10);
    }

    private static void leastLook() {
        Document.heads("## Promise 22: leastLook `int leastLook(int pay)`:");
        Document.says("LEAST LOOK; NONE: there is none.");
        // A look leads by half of 20.
        Document.due("40 hundredths", sample().leastLook(2), 40);
        Document.due("100 hundredths", Edge.withCost(sample(), 10).leastLook(2), 100);
        Document.due("more than that", Edge.withCost(sample(), 11).leastLook(2), NONE);
        Document.says("UNKNOWN: pay; STATE: there is no QUESTION, or it is no CHECK.");
        NobodyChecks x = sample();
        Document.refused(x, "pay", y -> y.leastLook(3), UNKNOWN);
        Document.refused(x, "pay", y -> y.leastLook(-1), UNKNOWN);
        Document.refused(withoutQuestion(), "pay, QUESTION", y -> y.leastLook(1), UNKNOWN);
        Document.refused(withoutQuestion(), "QUESTION", y -> y.leastLook(0), STATE);
        x.pay(2, 1, 2, 3, 4);
        x.pay(3, 1, 2, 3, 4);
        for (int pay : new int[] {0, 1, 3, 4}) {
            Document.refused(x, "no CHECK", y -> y.leastLook(pay), STATE);
        }
    }

    private static void mayBe() {
        Document.heads("## Promise 23: mayBe `int mayBe(int pay, int e)`:");
        Document.says("MAY BE with e (0 to 100): how many.");
        // Truth leads by 1, with one CHANCE a hundredth off still by nine tenths.
        NobodyChecks x = sample();
        Document.due("as it is", x.mayBe(0, 0), 9);
        Document.due("e 1", x.mayBe(0, 1), 9);
        Document.due("e 100: four are as they are, of four one sees nothing", x.mayBe(0, 100), 5);
        Document.due("truth does not rest", x.mayBe(1, 100), 0);
        Document.says("UNKNOWN: pay; STATE: there is no QUESTION; OUTSIDE.");
        for (int wrong : new int[] {-1, 101, Integer.MIN_VALUE, Integer.MAX_VALUE}) {
            Document.refused(x, "pay, e", y -> y.mayBe(wrong, wrong), UNKNOWN);
            Document.refused(withoutQuestion(), "pay, QUESTION", y -> y.mayBe(wrong, 0), UNKNOWN);
            Document.refused(withoutQuestion(), "QUESTION, e", y -> y.mayBe(0, wrong), STATE);
            Document.refused(x, "e", y -> y.mayBe(0, wrong), OUTSIDE);
        }
        Document.refused(x, "the next pay", y -> y.mayBe(3, 0), UNKNOWN);
    }
}
