/** The boundary cases of AT REST and of promises 14 to 19: a method for each sentence. */
public final class EdgesOfRestTest {
    private static final int NONE = NobodyChecks.NONE, UNKNOWN = NobodyChecks.UNKNOWN,
        OUTSIDE = NobodyChecks.OUTSIDE, STATE = NobodyChecks.STATE;

    public static void main(String[] args) {
        nobodyIsWorthMore();
        worthMoreByOnePart();
        gainIsNothing();
        leastPerson();
        leastWay();
        gainRefused();
        restsRefused();
        inOrder();
        ithOfRests();
        moreThanTruth();
        allRefused();
        eachIsWorthMore();
        fewestPersons();
        leastSet();
        leastProfile();
        groupRefused();
        untilAllRest();
        neverRound();
        goesRefused();
        comeToTruth();
        drawnRefused();
        withoutQuestion();
        Due.end();
    }

    /** All see what is so; a SAME of 10; each looks at the COST. */
    private static NobodyChecks sameOfTen(int persons, int cost) {
        NobodyChecks x = Edge.withCost(Edge.allSee(1, 1, persons), cost);
        x.pay(1, 10, 0, 0, 0);
        return x;
    }

    /** All get the same, whatever they do. */
    private static NobodyChecks idle(int persons) {
        NobodyChecks x = Due.asked(Edge.oneCase(1, 50, persons));
        x.pay(0, 7, 0, 0, 0);
        return x;
    }

    private static void nobodyIsWorthMore() {
        Edge.says("AT REST: nobody is WORTH more with another WAY, the others being as they are.");
        // To answer 0 or 1 unseen is WORTH half of what truth is: as much, if the COST is the other half.
        for (int persons = 2; persons <= 4; persons++) {
            int half = 5 * (persons - 1);
            Edge.due("more", sameOfTen(persons, half - 1).rests(0, 0, 0), 1);
            Edge.due("as much", sameOfTen(persons, half).rests(0, 0, 0), 1);
            Edge.due("less", sameOfTen(persons, half + 1).rests(0, 0, 0), 0);
        }
        // By the least part: one hundredth of a hundredth.
        NobodyChecks x = Due.asked("1:100,100");
        x.pay(4, 0, 1, 1, 50);
        x.pay(4, 0, 1, 1, 51);
        x.pay(4, 0, 1, 1, 49);
        Edge.due("the house sees nothing", x.all(0, 0), 16);
        Edge.due("one part for 1", x.rests(1, 10, 0), 0);
        Edge.due("one part for 1", x.rests(1, 15, 0), 1);
        Edge.due("one part for 0", x.rests(2, 15, 0), 0);
        Edge.due("one part for 0", x.rests(2, 10, 0), 1);
    }

    private static void worthMoreByOnePart() {
        Edge.says("AT REST .. GAIN .. A GROUP GAINS (by the least part that there is)");
        // 0 sees 1: 7289 times of 20000 so does 1, 4111 times it does not; 141 times 7289 is one less than 250 times 4111.
        NobodyChecks x = Due.asked("1:73,83;1:41,30");
        x.pay(2, 250, 0, 0, 141);
        x.pay(2, 250, 0, 0, 142);
        Edge.due("truth", x.rests(0, 0, 0), 0);
        Edge.due("FIRST", x.rests(0, 0, 1), 0);
        Edge.due("BEST", x.rests(0, 0, 2), 2);
        Edge.due("GAIN above", x.gain(0, 0, 0, 0), 1);
        Edge.due("GAIN below", x.gain(0, 0, 0, 1), 20000);
        Edge.due("GAIN of 1", x.gain(0, 0, 1, 0), 0);
        Edge.due("GROUP", x.group(0, 0, 0), 1);
        Edge.due("its PROFILE", x.group(0, 0, 1), 2);
        Edge.due("MAY BE as it is", x.mayBe(0, 0), 0);
        Edge.due("DRAWN", x.drawn(0), 0);
        Edge.due("truth with one more", x.rests(1, 0, 0), 1);
        Edge.due("GAIN with one more", x.gain(1, 0, 0, 0), 0);
        Edge.due("MAY BE with one more", x.mayBe(1, 0), 9);
    }

    private static void gainIsNothing() {
        Edge.says("GAIN of a PERSON: how much more its best WAY is WORTH (0, if it rests).");
        int[] costs = {14, 15, 16};
        for (int cost : costs) {
            NobodyChecks x = sameOfTen(4, cost);
            for (int person = 0; person < 4; person++) {
                Edge.due("COST " + cost, x.gain(0, 0, person, 0), cost == 16 ? 1 : 0);
                Edge.due("COST " + cost + " below", x.gain(0, 0, person, 1), 1);
            }
        }
        NobodyChecks x = Due.asked("1:100,100");
        x.pay(4, 0, 1, 1, 51);
        // To answer 1 is WORTH 51 of 10000, to answer 0 is WORTH 49.
        Edge.due("the least gain", x.gain(0, 10, 1, 0), 1);
        Edge.due("the least gain below", x.gain(0, 10, 1, 1), 5000);
        Edge.due("who rests beside one who does not", x.gain(0, 14, 1, 0), 0);
        Edge.due("in lowest terms", x.gain(0, 14, 1, 1), 1);
        NobodyChecks most = Edge.withCost(Due.asked("1:100,100,100,100"), 999);
        most.pay(4, 999, 100, 999, 100);
        // TURNED among TRUE ones gets nothing and pays 999; to answer 1 gives 3 and 1 times 999.
        Edge.due("the greatest gain", most.gain(0, 1, 0, 0), 5 * 999);
    }

    private static void leastPerson() {
        Edge.says("FIRST: the least PERSON that does not rest .. what = 1 FIRST (NONE)");
        for (int persons = 2; persons <= 4; persons++) {
            NobodyChecks x = idle(persons);
            Edge.due("none", x.rests(0, 0, 1), NONE);
            for (int person = persons - 1; person >= 0; person--) {
                x.cost(person, 1);
                Edge.due("the least", x.rests(0, 0, 1), person);
                Edge.due("does not rest", x.rests(0, 0, 0), 0);
            }
            x.cost(0, 0);
            Edge.due("then the next", x.rests(0, 0, 1), 1);
        }
    }

    private static void leastWay() {
        Edge.says("BEST: the least of its WAYS of greatest WORTH .. 2 BEST of that (NONE)");
        NobodyChecks x = idle(2);
        Edge.due("none", x.rests(0, 0, 2), NONE);
        x.cost(0, 1);
        Edge.due("2 and 3 are like", x.rests(0, 0, 2), 2);
        Edge.due("2 and 3 are like", x.rests(0, 1, 2), 2);
        // 0 is TURNED, 1 is TRUE: at a COST of 5 all but TURNED are like.
        Edge.due("0, 2 and 3 are like", sameOfTen(2, 5).rests(0, 1, 2), 0);
        Edge.due("0 is greatest", sameOfTen(2, 4).rests(0, 1, 2), 0);
        Edge.due("2 and 3 are greatest", sameOfTen(2, 6).rests(0, 1, 2), 2);
        // Both TURNED ones hold each other.
        Edge.due("1 is greatest", sameOfTen(2, 4).rests(0, 4, 2), 1);
        Edge.due("1, 2 and 3 are like", sameOfTen(2, 5).rests(0, 4, 2), 1);
        Edge.due("3 is greatest", sameOfTen(2, 5).rests(0, 12, 2), 3);
        // All always see 1: TRUE and 3 answer the same.
        NobodyChecks ones = Due.asked("1:100,100");
        ones.pay(1, 10, 0, 0, 0);
        Edge.due("0 and 3 are like", ones.rests(0, 14, 2), 0);
        Edge.due("1 and 2 are like", ones.rests(0, 11, 2), 1);
    }

    private static void gainRefused() {
        Edge.says("GAIN of a PERSON: part 0 above, 1 below. UNKNOWN: pay, person; OUTSIDE: profile, part.");
        for (int persons = 2; persons <= 4; persons++) {
            int n = persons, limit = Edge.power(4, persons);
            NobodyChecks x = idle(n);
            Edge.due("the last", x.gain(0, limit - 1, n - 1, 1), 1);
            Edge.refused(x, "a PROFILE more", y -> y.gain(0, limit, 0, 0), OUTSIDE);
            Edge.refused(x, "a PROFILE less", y -> y.gain(0, -1, 0, 0), OUTSIDE);
            Edge.refused(x, "part 2", y -> y.gain(0, 0, 0, 2), OUTSIDE);
            Edge.refused(x, "part -1", y -> y.gain(0, 0, 0, -1), OUTSIDE);
            Edge.refused(x, "a PERSON more", y -> y.gain(0, 0, n, 0), UNKNOWN);
            Edge.refused(x, "a PERSON less", y -> y.gain(0, 0, -1, 0), UNKNOWN);
            Edge.refused(x, "a PAY more", y -> y.gain(1, 0, 0, 0), UNKNOWN);
            Edge.refused(x, "person and profile", y -> y.gain(0, limit, n, 2), UNKNOWN);
        }
    }

    private static void restsRefused() {
        Edge.says("(UNKNOWN: pay; STATE: there is no QUESTION; OUTSIDE: profile, what) rests");
        for (int persons = 2; persons <= 4; persons++) {
            int limit = Edge.power(4, persons);
            NobodyChecks x = idle(persons);
            Edge.due("the last", x.rests(0, limit - 1, 0), 1);
            Edge.due("the last", x.rests(0, limit - 1, 2), NONE);
            Edge.refused(x, "a PROFILE more", y -> y.rests(0, limit, 0), OUTSIDE);
            Edge.refused(x, "a PROFILE less", y -> y.rests(0, -1, 0), OUTSIDE);
            Edge.refused(x, "what 3", y -> y.rests(0, 0, 3), OUTSIDE);
            Edge.refused(x, "what -1", y -> y.rests(0, 0, -1), OUTSIDE);
            Edge.refused(x, "a PAY more", y -> y.rests(1, limit, 3), UNKNOWN);
            Edge.refused(x, "a PAY less", y -> y.rests(-1, limit, 3), UNKNOWN);
        }
    }

    private static void inOrder() {
        Edge.says("RESTS: all PROFILES at rest, in order.");
        NobodyChecks x = sameOfTen(3, 10);
        int before = -1;
        for (int i = 0; i < x.all(0, 0); i++) {
            int rest = x.all(0, 10 + i);
            Edge.due("rests", x.rests(0, rest, 0), 1);
            Edge.due("in order", rest > before ? 1 : 0, 1);
            before = rest;
        }
        Edge.due("the last", before, 63);
        int counted = 0;
        for (int profile = 0; profile < 64; profile++) {
            counted += x.rests(0, profile, 0);
        }
        Edge.due("all of them", x.all(0, 0), counted);
    }

    private static void ithOfRests() {
        Edge.says("the i-th of RESTS: 10 and i (NONE)");
        for (int persons = 2; persons <= 4; persons++) {
            int limit = Edge.power(4, persons);
            NobodyChecks x = idle(persons);
            Edge.due("all rest", x.all(0, 0), limit);
            for (int i = 0; i < 90; i++) {
                Edge.due("the " + i + "th", x.all(0, 10 + i), i < limit ? i : NONE);
            }
        }
        NobodyChecks one = Edge.allSee(1, 1, 2);
        one.pay(4, 0, 100, 1, 100);
        Edge.due("one rests", one.all(0, 0), 1);
        Edge.due("the first", one.all(0, 10), 0);
        Edge.due("no second", one.all(0, 11), NONE);
        Edge.due("no last", one.all(0, 99), NONE);
    }

    private static void moreThanTruth() {
        Edge.says("RICHER: those of them by which all together are WORTH more than by truth (all TRUE).");
        Edge.due("as much", sameOfTen(2, 0).all(0, 1), 0);
        Edge.due("more", sameOfTen(2, 1).all(0, 1), 2);
        // Both always see 1. One who answers 0 gets q1 beside one who gets q2; by truth both get q3.
        int[] q1 = {2, 3, 4};
        int[] rests = {4, 12, 8}, richer = {0, 0, 8};
        for (int k = 0; k < 3; k++) {
            NobodyChecks x = Due.asked("1:100,100");
            x.pay(2, 0, q1[k], 3, 3);
            Edge.due("RESTS with q1 " + q1[k], x.all(0, 0), rests[k]);
            Edge.due("RICHER with q1 " + q1[k], x.all(0, 1), richer[k]);
        }
        // All together: what one is WORTH less, another one is WORTH more.
        NobodyChecks x = Due.asked("1:100,100");
        x.pay(2, 0, 4, 2, 3);
        Edge.due("RESTS, one more and one less", x.all(0, 0), 8);
        Edge.due("as much together", x.all(0, 1), 0);
        // Without rest nobody counts: all are WORTH more if both answer 0, but neither rests.
        NobodyChecks y = Due.asked("1:100,100");
        y.pay(2, 5, 0, 9, 1);
        Edge.due("truth alone rests", y.all(0, 0), 4);
        Edge.due("richer, but not at rest", y.all(0, 1), 0);
    }

    private static void allRefused() {
        Edge.says("How many RESTS (what = 0), RICHER (1) .. OUTSIDE: what (10 to 99 else).");
        NobodyChecks x = idle(4);
        Edge.due("what 0", x.all(0, 0), 256);
        Edge.due("what 1", x.all(0, 1), 0);
        Edge.due("what 10", x.all(0, 10), 0);
        Edge.due("what 99", x.all(0, 99), 89);
        int[] wrong = {-1, 2, 3, 8, 9, 100, 101, Integer.MIN_VALUE, Integer.MAX_VALUE};
        for (int what : wrong) {
            Edge.refused(x, "what " + what, y -> y.all(0, what), OUTSIDE);
            Edge.refused(x, "a PAY more, what " + what, y -> y.all(1, what), UNKNOWN);
        }
        Edge.refused(x, "a PAY less", y -> y.all(-1, 0), UNKNOWN);
    }

    private static void eachIsWorthMore() {
        Edge.says("each of its PERSONS takes another WAY, all at once, .. and each of it is WORTH more");
        Edge.due("as much is no gain", sameOfTen(2, 0).group(0, 0, 0), NONE);
        Edge.due("as much is no gain", sameOfTen(2, 0).group(0, 0, 1), NONE);
        Edge.due("one more is", sameOfTen(2, 1).group(0, 0, 0), 3);
        // 1 has no COST, and so no gain: it is not of the group, and 0 alone has none.
        NobodyChecks x = sameOfTen(2, 0);
        x.cost(0, 5);
        Edge.due("not each of it", x.group(0, 0, 0), NONE);
        x.cost(0, 6);
        Edge.due("one alone", x.group(0, 0, 0), 1);
    }

    private static void fewestPersons() {
        Edge.says("THE SMALLEST: fewest PERSONS");
        // If k of n answer 0 unseen, each of them is WORTH 10 (k - 1) and 5 (n - k); by truth 10 (n - 1), less the COST.
        for (int persons = 2; persons <= 4; persons++) {
            Edge.due("nobody at no COST", sameOfTen(persons, 0).group(0, 0, 0), NONE);
            for (int many = 1; many <= persons; many++) {
                int line = 5 * (persons - many);
                int set = (1 << many) - 1, profile = Edge.power(4, many) / 3 * 2;
                Edge.due(many + " of " + persons, sameOfTen(persons, line + 1).group(0, 0, 0), set);
                Edge.due(many + " of " + persons, sameOfTen(persons, line + 1).group(0, 0, 1), profile);
                if (many < persons) {
                    Edge.due("more than " + many + " of " + persons, sameOfTen(persons, line).group(0, 0, 0), 2 * set + 1);
                }
            }
        }
        // 0 and 1 gain together, 2 gains alone: one is fewer than two, though 4 is a greater set than 3.
        NobodyChecks x = sameOfTen(4, 0);
        x.cost(0, 1);
        x.cost(1, 1);
        Edge.due("one ahead of two", x.group(0, 16, 0), 4);
        Edge.due("one ahead of two", x.group(0, 16, 1), 0);
    }

    private static void leastSet() {
        Edge.says("of like ones the least set (as bits)");
        int[][] costs = {{6, 6, 6}, {6, 6, 0}, {6, 0, 6}, {0, 6, 6}};
        int[] sets = {3, 3, 5, 6}, profiles = {10, 10, 34, 40};
        for (int k = 0; k < costs.length; k++) {
            NobodyChecks x = sameOfTen(3, 0);
            for (int person = 0; person < 3; person++) {
                x.cost(person, costs[k][person]);
            }
            Edge.due("two of three", x.group(0, 0, 0), sets[k]);
            Edge.due("two of three", x.group(0, 0, 1), profiles[k]);
        }
        NobodyChecks x = idle(4);
        for (int person = 3; person >= 0; person--) {
            x.cost(person, 1);
            Edge.due("the least of one", x.group(0, 0, 0), 1 << person);
            Edge.due("the least of one", x.group(0, 0, 1), 2 << (2 * person));
        }
    }

    private static void leastProfile() {
        Edge.says("of PROFILES that come of it so the least");
        // 0 is TURNED among TRUE ones: TRUE, 2 and 3 are each WORTH more; TRUE is least, be it best or not.
        Edge.due("TRUE is best", sameOfTen(2, 4).group(0, 1, 1), 0);
        Edge.due("TRUE is not best", sameOfTen(2, 6).group(0, 1, 1), 0);
        // Both answer 1 where 0 is better paid for both.
        NobodyChecks x = Due.asked("1:100,100");
        x.pay(2, 5, 0, 0, 1);
        Edge.due("both", x.group(0, 15, 0), 3);
        Edge.due("TURNED and TURNED", x.group(0, 15, 1), 5);
        Edge.due("both", x.group(0, 0, 0), 3);
        Edge.due("TURNED and TURNED", x.group(0, 0, 1), 5);
        Edge.due("at rest", x.group(0, 5, 0), NONE);
    }

    private static void groupRefused() {
        Edge.says("(UNKNOWN: pay; STATE: there is no QUESTION; OUTSIDE: profile, what) group");
        for (int persons = 2; persons <= 4; persons++) {
            int limit = Edge.power(4, persons);
            NobodyChecks x = idle(persons);
            Edge.due("the last", x.group(0, limit - 1, 0), NONE);
            Edge.due("the last", x.group(0, limit - 1, 1), NONE);
            Edge.refused(x, "a PROFILE more", y -> y.group(0, limit, 0), OUTSIDE);
            Edge.refused(x, "a PROFILE less", y -> y.group(0, -1, 0), OUTSIDE);
            Edge.refused(x, "what 2", y -> y.group(0, 0, 2), OUTSIDE);
            Edge.refused(x, "what -1", y -> y.group(0, 0, -1), OUTSIDE);
            Edge.refused(x, "a PAY more", y -> y.group(1, limit, 2), UNKNOWN);
            Edge.refused(x, "a PAY less", y -> y.group(-1, limit, 2), UNKNOWN);
        }
    }

    private static void untilAllRest() {
        Edge.says("again and again the least PERSON that does not rest takes BEST: until all rest");
        for (int persons = 2; persons <= 4; persons++) {
            int limit = Edge.power(4, persons);
            NobodyChecks x = idle(persons);
            Edge.due("at rest", x.goes(0, limit - 1, 0), limit - 1);
            Edge.due("no steps", x.goes(0, limit - 1, 1), 0);
            Edge.due("at rest", x.goes(0, 0, 0), 0);
            Edge.due("no steps", x.goes(0, 0, 1), 0);
            Edge.withCost(x, 1);
            Edge.due("each takes 2", x.goes(0, 0, 0), limit / 3 * 2);
            Edge.due("each takes a step", x.goes(0, 0, 1), persons);
            Edge.due("each but the last", x.goes(0, limit / 4 * 3, 1), persons - 1);
            Edge.due("who answers 1 stays", x.goes(0, limit / 4 * 3, 0), limit / 4 * 3 + limit / 12 * 2);
        }
        // One PERSON may step again: 0 becomes TRUE as 1 is, 1 stops to look and answers 1, so does 0 then.
        NobodyChecks x = Edge.allSee(2, 1, 2);
        x.pay(1, 3, 0, 0, 0);
        x.cost(1, 2);
        int[] from = {2, 0, 12, 15};
        for (int gone = 0; gone < 4; gone++) {
            Edge.due("LAST", x.goes(0, from[gone], 0), 15);
            Edge.due("steps from " + from[gone], x.goes(0, from[gone], 1), 3 - gone);
        }
    }

    private static void neverRound() {
        Edge.says("or a PROFILE comes again (ROUND) .. 2 whether it goes ROUND (1, 0)");
        // What each is WORTH more by a step, one sum for all grows by: no PROFILE comes again under these KINDS.
        String[] texts = {"1:100,100;1:0,0", "3:90,20;1:10,80", "2:90,10,50;1:20,80,40"};
        for (String text : texts) {
            for (int kind = 0; kind <= 4; kind++) {
                NobodyChecks x = Due.asked(text);
                x.pay(kind, 3, 90, 9, 1);
                x.cost(0, 1);
                int limit = Edge.power(4, x.count(1));
                for (int profile = 0; profile < limit; profile++) {
                    Edge.due("ROUND", x.goes(0, profile, 2), 0);
                    Edge.due("LAST rests", x.rests(0, x.goes(0, profile, 0), 0), 1);
                }
            }
        }
    }

    private static void goesRefused() {
        Edge.says("(UNKNOWN: pay; STATE: there is no QUESTION; OUTSIDE: profile, what) goes");
        for (int persons = 2; persons <= 4; persons++) {
            int limit = Edge.power(4, persons);
            NobodyChecks x = idle(persons);
            Edge.due("what 2", x.goes(0, limit - 1, 2), 0);
            Edge.refused(x, "a PROFILE more", y -> y.goes(0, limit, 0), OUTSIDE);
            Edge.refused(x, "a PROFILE less", y -> y.goes(0, -1, 0), OUTSIDE);
            Edge.refused(x, "what 3", y -> y.goes(0, 0, 3), OUTSIDE);
            Edge.refused(x, "what -1", y -> y.goes(0, 0, -1), OUTSIDE);
            Edge.refused(x, "a PAY more", y -> y.goes(1, limit, 3), UNKNOWN);
            Edge.refused(x, "a PAY less", y -> y.goes(-1, limit, 3), UNKNOWN);
        }
    }

    private static void comeToTruth() {
        Edge.says("DRAWN: how many of all PROFILES come to truth so.");
        for (int persons = 2; persons <= 4; persons++) {
            NobodyChecks x = Edge.allSee(1, 1, persons);
            x.pay(4, 0, 100, 2, 100);
            x.pay(0, 5, 0, 0, 0);
            Edge.due("all of them", x.drawn(0), Edge.power(4, persons));
            Edge.due("truth alone", x.drawn(1), 1);
            x.cost(persons - 1, 1);
            Edge.due("none", x.drawn(1), 0);
            // At this COST to answer unseen is WORTH as much: who does, stays; who is TURNED comes.
            Edge.due("a half of them", x.drawn(0), Edge.power(4, persons) / 2);
            x.cost(persons - 1, 2);
            Edge.due("none", x.drawn(0), 0);
        }
    }

    private static void drawnRefused() {
        Edge.says("DRAWN. UNKNOWN; STATE.");
        NobodyChecks x = idle(2);
        Edge.due("the last PAY", x.drawn(0), 1);
        Edge.refused(x, "a PAY more", y -> y.drawn(1), UNKNOWN);
        Edge.refused(x, "a PAY less", y -> y.drawn(-1), UNKNOWN);
    }

    private static void withoutQuestion() {
        Edge.says("---- at rest (UNKNOWN: pay; STATE: there is no QUESTION; OUTSIDE: profile, what)");
        NobodyChecks x = new NobodyChecks();
        Edge.refused(x, "rests, no PAY", y -> y.rests(0, 0, 0), UNKNOWN);
        Edge.refused(x, "all, no PAY", y -> y.all(0, 0), UNKNOWN);
        Edge.refused(x, "group, no PAY", y -> y.group(0, 0, 0), UNKNOWN);
        Edge.refused(x, "goes, no PAY", y -> y.goes(0, 0, 0), UNKNOWN);
        Edge.refused(x, "drawn, no PAY", y -> y.drawn(0), UNKNOWN);
        Edge.refused(x, "gain, no PAY", y -> y.gain(0, 0, 0, 0), UNKNOWN);
        x.pay(1, 10, 0, 0, 0);
        int[] profiles = {-1, 0, 15, 256};
        for (int profile : profiles) {
            Edge.refused(x, "rests", y -> y.rests(0, profile, 3), STATE);
            Edge.refused(x, "rests", y -> y.rests(0, profile, 0), STATE);
            Edge.refused(x, "all", y -> y.all(0, profile), STATE);
            Edge.refused(x, "group", y -> y.group(0, profile, 0), STATE);
            Edge.refused(x, "goes", y -> y.goes(0, profile, 0), STATE);
            // gain tells UNKNOWN (pay, person) itself, and without a QUESTION there is no PERSON.
            Edge.refused(x, "gain", y -> y.gain(0, profile, 0, 0), UNKNOWN);
        }
        Edge.refused(x, "drawn", y -> y.drawn(0), STATE);
    }
}
