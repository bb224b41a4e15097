/** The boundary cases of PAYS and WORTH, and of promises 9 to 13: a method for each sentence. */
public final class EdgesOfPaysTest {
    private static final int NONE = NobodyChecks.NONE, UNKNOWN = NobodyChecks.UNKNOWN,
        OUTSIDE = NobodyChecks.OUTSIDE, FULL = NobodyChecks.FULL;
    private static final long WORTH_UNKNOWN = -2000000000000000001L, WORTH_OUTSIDE = -2000000000000000002L;

    public static void main(String[] args) {
        eightPays();
        kinds();
        numbers();
        numbersOfCheck();
        castFails();
        aboutOutside();
        getsSame();
        getsTable();
        getsRare();
        getsRefused();
        mostSigns();
        houseLooks();
        houseSees();
        waysAndProfiles();
        costIfItLooks();
        worthInLowestTerms();
        worthRefused();
        Due.end();
    }

    private static void eightPays() {
        Edge.says("PAYS (8 at most, numbered)");
        for (int kind = 0; kind <= 4; kind++) {
            int k = kind;
            NobodyChecks x = Due.asked("1:50,50");
            Edge.refused(x, "there is none yet", y -> y.about(0, 0), UNKNOWN);
            for (int number = 0; number < 8; number++) {
                Edge.due("PAY " + number, x.pay(k, number, 0, 0, 0), number);
                Edge.due("how many", x.count(2), number + 1);
                int next = number + 1;
                Edge.refused(x, "the next one", y -> y.about(next, 0), UNKNOWN);
            }
            Edge.refused(x, "the ninth", y -> y.pay(k, 9, 9, 9, 9), FULL);
            Edge.refused(x, "the ninth, not as told", y -> y.pay(k, 1000, 0, 0, 0), OUTSIDE);
            Edge.refused(x, "the ninth, of no KIND", y -> y.pay(5, 0, 0, 0, 0), OUTSIDE);
            for (int number = 0; number < 8; number++) {
                Edge.due("q0 of " + number, x.about(number, 0), number);
            }
        }
    }

    private static void kinds() {
        Edge.says("KINDS: 0 PAY, 1 SAME, 2 TABLE, 3 RARE, 4 CHECK .. OUTSIDE: kind");
        NobodyChecks x = new NobodyChecks();
        int[] wrong = {-1, 5, Integer.MIN_VALUE, Integer.MAX_VALUE};
        for (int kind : wrong) {
            Edge.refused(x, "kind " + kind, y -> y.pay(kind, 0, 0, 0, 0), OUTSIDE);
        }
        for (int kind = 0; kind <= 4; kind++) {
            Edge.due("kind " + kind, x.pay(kind, 0, 0, 0, 0), kind);
            Edge.due("its KIND", x.about(kind, 4), kind);
        }
    }

    /** The numbers, one of them changed. */
    private static int payWith(NobodyChecks x, int kind, int place, int number) {
        int[] q = {1, 2, 3, 4};
        q[place] = number;
        return x.pay(kind, q[0], q[1], q[2], q[3]);
    }

    private static void numbers() {
        Edge.says("numbers q0 to q3 (0 to 999) .. OUTSIDE: a number");
        int[] wrong = {-1, 1000, Integer.MIN_VALUE, Integer.MAX_VALUE};
        for (int kind = 0; kind <= 4; kind++) {
            for (int place = 0; place <= 3; place++) {
                int k = kind, p = place;
                NobodyChecks x = new NobodyChecks();
                for (int number : wrong) {
                    Edge.refused(x, "q" + p + " of kind " + k + ": " + number, y -> payWith(y, k, p, number), OUTSIDE);
                }
                boolean isShare = k == 4 && (p == 1 || p == 3);
                Edge.due("least q" + p, payWith(x, k, p, 0), 0);
                Edge.due("greatest q" + p, payWith(x, k, p, isShare ? 100 : 999), 1);
                Edge.due("least q" + p + " stays", x.about(0, p), 0);
                Edge.due("greatest q" + p + " stays", x.about(1, p), isShare ? 100 : 999);
            }
        }
    }

    private static void numbersOfCheck() {
        Edge.says("a number (of a CHECK q1, q3 above 100, too)");
        NobodyChecks x = new NobodyChecks();
        int[] above = {101, 999};
        for (int number : above) {
            Edge.refused(x, "q1 " + number, y -> y.pay(4, 0, number, 0, 0), OUTSIDE);
            Edge.refused(x, "q3 " + number, y -> y.pay(4, 0, 0, 0, number), OUTSIDE);
        }
        Edge.due("q0, q2 of a CHECK", x.pay(4, 999, 100, 999, 100), 0);
        for (int kind = 0; kind <= 3; kind++) {
            Edge.due("q1, q3 of kind " + kind, x.pay(kind, 0, 101, 0, 101), kind + 1);
        }
    }

    private static void castFails() {
        Edge.says("its number; NONE: it is none such (the cast fails). UNKNOWN; OUTSIDE.");
        NobodyChecks x = new NobodyChecks();
        int[][] such = {{0}, {0, 1}, {0, 2}, {0, 2, 3}, {0, 1, 4}};
        for (int pay = 0; pay < 8; pay++) {
            int kind = pay % 5;
            x.pay(kind, 0, 0, 0, 0);
            int found = 0;
            for (int asked = 0; asked <= 4; asked++) {
                boolean isSuch = found < such[kind].length && such[kind][found] == asked;
                found += isSuch ? 1 : 0;
                Edge.due(kind + " as " + asked, x.as(pay, asked), isSuch ? pay : NONE);
            }
            int p = pay;
            Edge.refused(x, "as 5", y -> y.as(p, 5), OUTSIDE);
            Edge.refused(x, "as -1", y -> y.as(p, -1), OUTSIDE);
            Edge.refused(x, "the next", y -> y.as(p + 1, 0), UNKNOWN);
            Edge.refused(x, "the next as 5", y -> y.as(p + 1, 5), UNKNOWN);
        }
        Edge.refused(x, "PAY -1", y -> y.as(-1, 0), UNKNOWN);
    }

    private static void aboutOutside() {
        Edge.says("One of a PAY's numbers (0 to 3), its KIND (4). UNKNOWN; OUTSIDE.");
        NobodyChecks x = new NobodyChecks();
        x.pay(2, 10, 11, 12, 13);
        for (int what = 0; what <= 3; what++) {
            Edge.due("about(0, " + what + ")", x.about(0, what), 10 + what);
        }
        Edge.due("about(0, 4)", x.about(0, 4), 2);
        int[] wrong = {-1, 5, Integer.MIN_VALUE, Integer.MAX_VALUE};
        for (int number : wrong) {
            Edge.refused(x, "about(0, " + number + ")", y -> y.about(0, number), OUTSIDE);
            Edge.refused(x, "about(" + number + ", 0)", y -> y.about(number, 0), UNKNOWN);
            Edge.refused(x, "about(" + number + ", 5)", y -> y.about(number, 5), UNKNOWN);
        }
    }

    private static void getsSame() {
        Edge.says("a SAME q0 for each other one who answers x");
        for (int persons = 2; persons <= 4; persons++) {
            NobodyChecks x = Due.asked(Edge.oneCase(1, 50, persons));
            x.pay(1, 999, 1, 1, 1);
            x.pay(4, 999, 100, 999, 100);
            int all = (1 << persons) - 1;
            for (int person = 0; person < persons; person++) {
                int alone = 1 << person;
                for (int pay = 0; pay <= 1; pay++) {
                    Edge.due("all answer 0", x.gets(pay, person, 0), 999 * (persons - 1));
                    Edge.due("all answer 1", x.gets(pay, person, all), 999 * (persons - 1));
                    Edge.due("alone with 1", x.gets(pay, person, alone), 0);
                    Edge.due("alone with 0", x.gets(pay, person, all - alone), 0);
                    Edge.due("one with 1 too", x.gets(pay, person, alone | 1 << (person + 1) % persons), 999);
                }
            }
        }
    }

    private static void getsTable() {
        Edge.says("a TABLE for each other one, who answers y, q of 2 x and y");
        for (int persons = 2; persons <= 4; persons++) {
            NobodyChecks x = Due.asked(Edge.oneCase(1, 50, persons));
            // By base 10 it can be seen how often each number is got.
            x.pay(2, 1, 10, 100, 999);
            int others = persons - 1, all = (1 << persons) - 1;
            Edge.due("0 among 0", x.gets(0, 0, 0), others);
            Edge.due("0 among 1", x.gets(0, 0, all - 1), 10 * others);
            Edge.due("1 among 0", x.gets(0, 0, 1), 100 * others);
            Edge.due("1 among 1", x.gets(0, 0, all), 999 * others);
            Edge.due("0, the next one 1", x.gets(0, 0, 2), 10 + others - 1);
            Edge.due("1, the next one 1", x.gets(0, 0, 3), 999 + 100 * (others - 1));
        }
    }

    private static void getsRare() {
        Edge.says("so many times more as those who answer x (it, too) are fewer than those who answer the other");
        // 1 in q0, 10 in q2 and nothing else: all that is got for others who answer 0, and for being fewer.
        for (int persons = 2; persons <= 4; persons++) {
            NobodyChecks x = Due.asked(Edge.oneCase(1, 50, persons));
            x.pay(3, 1, 0, 10, 0);
            x.pay(3, 0, 1, 0, 10);
            for (int answers = 0; answers < 1 << persons; answers++) {
                int ones = Integer.bitCount(answers), zeros = persons - ones;
                int zeroMore = ones > zeros ? ones - zeros : 0, oneMore = zeros > ones ? zeros - ones : 0;
                for (int person = 0; person < persons; person++) {
                    boolean isOne = (answers >> person & 1) == 1;
                    String call = "gets(.., " + person + ", " + answers + ") of " + persons;
                    Edge.due(call, x.gets(0, person, answers), isOne ? 10 * (zeros + oneMore) : zeros - 1 + zeroMore);
                    // q1 and q3 are never given more.
                    Edge.due(call, x.gets(1, person, answers), isOne ? 10 * (ones - 1) : ones);
                }
            }
        }
        NobodyChecks four = Due.asked(Edge.oneCase(1, 50, 4));
        four.pay(3, 100, 0, 0, 0);
        Edge.due("two of four are not fewer", four.gets(0, 0, 12), 100);
        Edge.due("one of four is two fewer", four.gets(0, 0, 14), 200);
        Edge.due("three of four are not fewer", four.gets(0, 0, 8), 200);
    }

    private static void getsRefused() {
        Edge.says("What a PERSON gets, if all answer so (bits of PERSONS). UNKNOWN: pay, person; OUTSIDE: answers.");
        for (int persons = 2; persons <= 4; persons++) {
            int n = persons, limit = 1 << persons;
            NobodyChecks x = Due.asked(Edge.oneCase(1, 50, n));
            x.pay(0, 7, 0, 0, 0);
            Edge.due("the least answers", x.gets(0, 0, 0), 7);
            Edge.due("the greatest answers", x.gets(0, n - 1, limit - 1), 7);
            Edge.refused(x, "answers more", y -> y.gets(0, 0, limit), OUTSIDE);
            Edge.refused(x, "answers less", y -> y.gets(0, 0, -1), OUTSIDE);
            Edge.refused(x, "a PERSON more", y -> y.gets(0, n, 0), UNKNOWN);
            Edge.refused(x, "a PERSON less", y -> y.gets(0, -1, 0), UNKNOWN);
            Edge.refused(x, "a PAY more", y -> y.gets(1, 0, 0), UNKNOWN);
            Edge.refused(x, "a PAY less", y -> y.gets(-1, 0, 0), UNKNOWN);
            Edge.refused(x, "person and answers", y -> y.gets(0, n, limit), UNKNOWN);
            Edge.refused(x, "pay and answers", y -> y.gets(1, 0, limit), UNKNOWN);
        }
    }

    private static void worthIs(NobodyChecks x, int pay, int profile, int person, long above, long below) {
        String call = "worth(" + pay + ", " + profile + ", " + person + ", ";
        Edge.due(call + "0)", x.worth(pay, profile, person, 0), above);
        Edge.due(call + "1)", x.worth(pay, profile, person, 1), below);
    }

    /** A QUESTION whose SIGNS (bits of PERSONS) are sure. */
    private static NobodyChecks sure(int signs, int persons) {
        StringBuilder text = new StringBuilder("1:");
        for (int person = 0; person < persons; person++) {
            text.append(person == 0 ? "" : ",").append((signs >> person & 1) == 1 ? 100 : 0);
        }
        return Due.asked(text.toString());
    }

    private static void mostSigns() {
        Edge.says("it sees SIGN 1 with the CHANCE q3 if most PERSONS' SIGNS are 1, with 100 less q3 if not");
        for (int persons = 2; persons <= 4; persons++) {
            int answerZero = Edge.power(4, persons) / 3 * 2, answerOne = Edge.power(4, persons) - 1;
            for (int signs = 0; signs < 1 << persons; signs++) {
                NobodyChecks x = sure(signs, persons);
                x.pay(4, 0, 100, 1, 100);
                // As many of each are not most: 2 of 2, 2 of 3, 3 of 4 are needed.
                boolean mostAreOne = Integer.bitCount(signs) >= new int[] {2, 2, 3}[persons - 2];
                for (int person = 0; person < persons; person++) {
                    worthIs(x, 0, answerOne, person, mostAreOne ? 1 : 0, 1);
                    worthIs(x, 0, answerZero, person, mostAreOne ? 0 : 1, 1);
                    boolean sawOne = (signs >> person & 1) == 1;
                    worthIs(x, 0, 0, person, sawOne == mostAreOne ? 1 : 0, 1);
                }
            }
        }
    }

    private static void houseLooks() {
        Edge.says("q1 hundredths of the times (100 at most) the house looks: q2 more, if x is what it sees");
        NobodyChecks x = sure(3, 2);
        x.pay(4, 5, 0, 999, 100);
        x.pay(4, 5, 1, 999, 100);
        x.pay(4, 5, 99, 999, 100);
        x.pay(4, 5, 100, 999, 100);
        x.pay(4, 5, 100, 0, 100);
        worthIs(x, 0, 0, 0, 5, 1);
        worthIs(x, 1, 0, 0, 1499, 100);
        worthIs(x, 2, 0, 0, 99401, 100);
        worthIs(x, 3, 0, 0, 1004, 1);
        worthIs(x, 4, 0, 0, 5, 1);
        // Whoever answers what it does not see gets what a SAME gives.
        worthIs(x, 3, 5, 0, 5, 1);
        worthIs(x, 3, 1, 0, 0, 1);
    }

    private static void houseSees() {
        Edge.says("with the CHANCE q3 (hundredths, 100 at most)");
        int[] chances = {0, 1, 50, 99, 100};
        for (int q3 : chances) {
            NobodyChecks most = sure(3, 2), not = sure(0, 2);
            most.pay(4, 0, 100, 100, q3);
            not.pay(4, 0, 100, 100, q3);
            worthIs(most, 0, 15, 0, q3, 1);
            worthIs(most, 0, 10, 0, 100 - q3, 1);
            worthIs(not, 0, 15, 0, 100 - q3, 1);
            worthIs(not, 0, 10, 0, q3, 1);
        }
    }

    private static void waysAndProfiles() {
        Edge.says("WAYS: 0 TRUE, 1 TURNED, 2 answers 0, 3 answers 1 .. figures of base 4, PERSON 0's lowest");
        for (int persons = 2; persons <= 4; persons++) {
            int limit = Edge.power(4, persons);
            for (int signs = 0; signs < 1 << persons; signs += persons == 4 ? 5 : 1) {
                // An object is used for at most 512 calls.
                for (int from = 0; from < limit; from += 64) {
                    NobodyChecks x = sure(signs, persons);
                    x.pay(2, 0, 0, 1, 1);
                    for (int person = 0; person < persons; person++) {
                        x.cost(person, 1 + person);
                    }
                    for (int profile = from; profile < from + 64 && profile < limit; profile++) {
                        holdAnswers(x, signs, profile);
                    }
                }
            }
        }
    }

    /** Under this TABLE who answers 1 gets 1 for each other one. */
    private static void holdAnswers(NobodyChecks x, int signs, int profile) {
        int persons = x.count(1), left = profile;
        for (int person = 0; person < persons; person++) {
            int sign = signs >> person & 1, way = left % 4;
            left /= 4;
            int[] answers = {sign, 1 - sign, 0, 1};
            int want = answers[way] * (persons - 1) - (way < 2 ? 1 + person : 0);
            Edge.due("worth(0, " + profile + ", " + person + ", 0)", x.worth(0, profile, person, 0), want);
        }
    }

    private static void costIfItLooks() {
        Edge.says("WORTH of a PERSON: what it gets on an average, less the COST if it looks (it may be below 0)");
        NobodyChecks x = Due.asked("1:50,50");
        x.pay(0, 0, 0, 0, 0);
        x.pay(0, 999, 0, 0, 0);
        int[] costs = {0, 1, 998, 999};
        for (int cost : costs) {
            x.cost(1, cost);
            for (int way = 0; way <= 3; way++) {
                int less = way <= 1 ? cost : 0;
                worthIs(x, 0, 4 * way, 1, -less, 1);
                worthIs(x, 1, 4 * way, 1, 999 - less, 1);
                worthIs(x, 0, 4 * way, 0, 0, 1);
            }
        }
        // A CHECK reckons in smaller parts, and the COST in whole ones.
        x.pay(4, 0, 1, 1, 1);
        x.cost(1, 999);
        worthIs(x, 2, 12, 1, 149, 20000);
        worthIs(x, 2, 0, 1, 51 - 999 * 20000, 20000);
    }

    private static void worthInLowestTerms() {
        Edge.says("Fractions are in lowest terms, below 1 at least.");
        NobodyChecks x = Due.asked("1:50,50");
        x.pay(1, 0, 0, 0, 0);
        x.pay(1, 1, 0, 0, 0);
        x.pay(1, 2, 0, 0, 0);
        worthIs(x, 0, 0, 0, 0, 1);
        worthIs(x, 1, 0, 0, 1, 2);
        worthIs(x, 2, 0, 0, 1, 1);
        x.cost(0, 1);
        worthIs(x, 1, 0, 0, -1, 2);
        worthIs(x, 2, 0, 0, 0, 1);
        NobodyChecks fine = Due.asked("1:1,1,1,1");
        fine.pay(4, 0, 1, 1, 1);
        // Three SIGNS are 1 in 397 of 100^4; then 1 of 100, else 99 of 100, in 1 of 100.
        worthIs(fine, 0, 255, 0, 4949980547L, 500000000000L);
        Edge.says("the least and the greatest WORTH");
        NobodyChecks most = Edge.allSee(99, 1, 4);
        most.pay(4, 999, 100, 999, 100);
        most.pay(3, 999, 999, 999, 999);
        most.pay(0, 0, 0, 0, 0);
        Edge.withCost(most, 999);
        worthIs(most, 0, 0, 3, 4 * 999 - 999, 1);
        worthIs(most, 2, 0, 3, -999, 1);
        worthIs(most, 2, 5, 3, -999, 1);
        // One TURNED among TRUE ones is the rarest: 3 times 999, and 2 times more, less the COST.
        worthIs(most, 1, 64, 3, 4 * 999, 1);
    }

    private static void worthRefused() {
        Edge.says("UNKNOWN (pay, person): -2000000000000000001; OUTSIDE (profile, part): -2000000000000000002.");
        for (int persons = 2; persons <= 4; persons++) {
            int n = persons, limit = Edge.power(4, persons);
            NobodyChecks x = Due.asked(Edge.oneCase(1, 50, n));
            x.pay(0, 7, 0, 0, 0);
            worthIs(x, 0, 0, 0, 7, 1);
            worthIs(x, 0, limit - 1, n - 1, 7, 1);
            Edge.refused(x, "a PROFILE more", y -> y.worth(0, limit, 0, 0), WORTH_OUTSIDE);
            Edge.refused(x, "a PROFILE less", y -> y.worth(0, -1, 0, 0), WORTH_OUTSIDE);
            Edge.refused(x, "part 2", y -> y.worth(0, 0, 0, 2), WORTH_OUTSIDE);
            Edge.refused(x, "part -1", y -> y.worth(0, 0, 0, -1), WORTH_OUTSIDE);
            Edge.refused(x, "a PERSON more", y -> y.worth(0, 0, n, 0), WORTH_UNKNOWN);
            Edge.refused(x, "a PERSON less", y -> y.worth(0, 0, -1, 0), WORTH_UNKNOWN);
            Edge.refused(x, "a PAY more", y -> y.worth(1, 0, 0, 0), WORTH_UNKNOWN);
            Edge.refused(x, "a PAY less", y -> y.worth(-1, 0, 0, 0), WORTH_UNKNOWN);
            Edge.refused(x, "person and profile", y -> y.worth(0, limit, n, 0), WORTH_UNKNOWN);
            Edge.refused(x, "pay and part", y -> y.worth(1, 0, 0, 2), WORTH_UNKNOWN);
        }
        NobodyChecks none = new NobodyChecks();
        none.pay(0, 7, 0, 0, 0);
        Edge.refused(none, "without a QUESTION", y -> y.worth(0, 0, 0, 0), WORTH_UNKNOWN);
    }
}
