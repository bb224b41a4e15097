/** 'Terms' of the document, 1: the text of THE QUESTION, SIGNS, WAYS, PAYS, PROFILES, WORTH. */
final class TermsOfPays {
    private static final int NONE = NobodyChecks.NONE, OUTSIDE = NobodyChecks.OUTSIDE, STATE = NobodyChecks.STATE,
        FULL = NobodyChecks.FULL;

    private TermsOfPays() {
    }

    static void hold() {
        Document.heads("## Terms");
        cases();
        weights();
        chances();
        persons();
        signs();
        ways();
        looks();
        kinds();
        casts();
        getsPay();
        getsSame();
        getsTable();
        getsRare();
        getsCheck();
        houseSees();
        profiles();
        worth();
    }

    /** What question() answers of a text. */
    private static int read(String text) {
        NobodyChecks x = new NobodyChecks();
        Due.write(x, text);
        return x.question();
    }

    private static void isNone(String... texts) {
        for (String text : texts) {
            Document.due("no QUESTION: " + text, read(text), STATE);
        }
    }

    private static void cases() {
        Document.says("CASES (1 to 5) with \";\" between:");
        for (int cases = 1; cases <= 6; cases++) {
            String text = Edge.many("1:50,50", ";", cases);
            Document.due(text, read(text), cases <= 5 ? 2 : STATE);
            if (cases <= 5) {
                Document.due("CASES of " + text, Due.asked(text).count(0), cases);
            }
        }
        isNone("", ";", "1:50,50;", ";1:50,50", "1:50,50;;1:50,50", "1:50,50:1:50,50", "1:50,50 1:50,50", "1:50,50; 1:50,50");
    }

    private static void weights() {
        Document.says("a WEIGHT (one or two digits, 1 to 99), \":\",");
        for (int weight = 1; weight <= 99; weight++) {
            Document.due("WEIGHT " + weight, Due.asked(weight + ":0,0").chance(0, NONE), weight);
            Document.due("WEIGHT " + weight + " behind", Due.asked("1:0,0;" + weight + ":0,0").chance(1, NONE), weight);
        }
        isNone(":0,0", "0:0,0", "00:0,0", "100:0,0", "001:0,0", "-1:0,0", "+1:0,0", "1.:0,0", "a:0,0", "1;0,0", "1,0,0", "10,0");
        // Two digits, and 1 to 99: only of CHANCES it is said that no 0 is ahead.
        Document.due("WEIGHT 07", Due.asked("07:0,0").chance(0, NONE), 7);
    }

    private static void chances() {
        Document.says("CHANCES with \",\" between (one to three digits, 0 to 100, without a 0 ahead of others),");
        for (int chance = 0; chance <= 100; chance++) {
            NobodyChecks x = Due.asked("1:" + chance + "," + (100 - chance));
            Document.due("CHANCE " + chance, x.chance(0, 0), chance);
            Document.due("CHANCE " + chance + " behind", x.chance(0, 1), 100 - chance);
        }
        for (int wrong = 101; wrong <= 999; wrong++) {
            isNone("1:5," + wrong);
        }
        isNone("1:,5", "1:5,", "1:5,,5", "1:00,5", "1:5,00", "1:05,5", "1:5,05", "1:5,005", "1:5,050", "1:5,0100",
            "1:5,1000", "1:5,-1", "1:5;5", "1:5 5", "1:5.5", "1:5:5");
    }

    private static void persons() {
        Document.says("one for each PERSON: 2 to 4, in all CASES as many.");
        for (int first = 1; first <= 5; first++) {
            boolean isOne = first >= 2 && first <= 4;
            Document.due(first + " PERSONS", read(Edge.oneCase(1, 5, first)), isOne ? first : STATE);
            for (int second = 1; second <= 5; second++) {
                String text = Edge.oneCase(1, 5, first) + ";" + Edge.oneCase(1, 5, second);
                Document.due(text, read(text), isOne && first == second ? first : STATE);
            }
        }
        isNone("1:5,5;1:5,5;1:5,5,5", "1:5,5;1:5,5,5;1:5,5", "1:5,5,5,5;1:5,5,5,5;1:5,5,5");
    }

    private static void worthIs(NobodyChecks x, int pay, int profile, int person, long above, long below) {
        String call = "worth(" + pay + ", " + profile + ", " + person + ")";
        Document.due(call + " above", x.worth(pay, profile, person, 0), above);
        Document.due(call + " below", x.worth(pay, profile, person, 1), below);
    }

    private static void signs() {
        Document.says("In a CASE (one of them is so; how likely, by WEIGHTS) each PERSON, alone, sees SIGN 1 with the CHANCE "
            + "(hundredths), else SIGN 0.");
        // A TABLE of one 1 pays PERSON 0 one, if both answer so: WORTH is how likely that is, of 40000.
        NobodyChecks x = Due.asked("3:80,50;1:20,0");
        int[] both = {3 * 20 * 50 + 80 * 100, 3 * 20 * 50, 3 * 80 * 50 + 20 * 100, 3 * 80 * 50};
        for (int place = 0; place < 4; place++) {
            x.pay(2, place == 0 ? 1 : 0, place == 1 ? 1 : 0, place == 2 ? 1 : 0, place == 3 ? 1 : 0);
            Plain.Part want = Plain.Part.of(both[place], 40000);
            worthIs(x, place, 0, 0, want.part(0), want.part(1));
        }
        // Three PERSONS in two CASES, like ones never unlike: only the CASE binds them.
        NobodyChecks y = Due.asked("1:100,100,100;2:0,0,0");
        y.pay(2, 0, 0, 0, 1);
        y.pay(2, 1, 0, 0, 0);
        worthIs(y, 0, 0, 2, 2, 3);
        worthIs(y, 1, 0, 2, 4, 3);
    }

    /** PERSON 0 always sees 1, PERSON 1 always 0; q of a TABLE tells both answers. */
    private static void ways() {
        Document.says("WAYS: 0 TRUE (answers the SIGN), 1 TURNED (the other one), 2 answers 0, 3 answers 1.");
        NobodyChecks x = Due.asked("1:100,0");
        x.pay(2, 11, 22, 33, 44);
        int[] answersOfOne = {1, 0, 0, 1}, answersOfZero = {0, 1, 0, 1}, told = {11, 22, 33, 44};
        for (int way = 0; way < 4; way++) {
            for (int other = 0; other < 4; other++) {
                int first = answersOfOne[way], second = answersOfZero[other];
                worthIs(x, 0, 4 * other + way, 0, told[2 * first + second], 1);
                worthIs(x, 0, 4 * other + way, 1, told[2 * second + first], 1);
            }
        }
    }

    private static void looks() {
        Document.says("TRUE and TURNED look, at a COST (0 to 999; 0 at first).");
        NobodyChecks x = Due.asked("1:50,50");
        x.pay(0, 7, 0, 0, 0);
        Document.due("0 at first", x.cost(0, 0), 0);
        for (int cost : new int[] {0, 1, 998, 999}) {
            x.cost(0, cost);
            for (int way = 0; way < 4; way++) {
                worthIs(x, 0, way, 0, way < 2 ? 7 - cost : 7, 1);
            }
        }
        Document.refused(x, "COST -1", y -> y.cost(0, -1), OUTSIDE);
        Document.refused(x, "COST 1000", y -> y.cost(0, 1000), OUTSIDE);
    }

    private static void kinds() {
        Document.says("PAYS (8 at most, numbered) are of KINDS: 0 PAY, 1 SAME, 2 TABLE, 3 RARE, 4 CHECK, with numbers q0 to q3 "
            + "(0 to 999).");
        NobodyChecks x = new NobodyChecks();
        for (int number = 0; number < 8; number++) {
            Document.due("its number", x.pay(number % 5, 999, number, 999 - number, 7), number);
            Document.due("KIND", x.about(number, 4), number % 5);
            Document.due("q0", x.about(number, 0), 999);
            Document.due("q1", x.about(number, 1), number);
            Document.due("q2", x.about(number, 2), 999 - number);
            Document.due("q3", x.about(number, 3), 7);
        }
        Document.refused(x, "a ninth", y -> y.pay(0, 0, 0, 0, 0), FULL);
        NobodyChecks z = new NobodyChecks();
        for (int number : new int[] {-1, 1000}) {
            Document.refused(z, "q0", y -> y.pay(1, number, 0, 0, 0), OUTSIDE);
            Document.refused(z, "q1", y -> y.pay(2, 0, number, 0, 0), OUTSIDE);
            Document.refused(z, "q2", y -> y.pay(3, 0, 0, number, 0), OUTSIDE);
            Document.refused(z, "q3", y -> y.pay(0, 0, 0, 0, number), OUTSIDE);
        }
        Document.refused(z, "KIND -1", y -> y.pay(-1, 0, 0, 0, 0), OUTSIDE);
        Document.refused(z, "KIND 5", y -> y.pay(5, 0, 0, 0, 0), OUTSIDE);
    }

    private static void casts() {
        Document.says("All are PAYS; a RARE is a TABLE, too; a CHECK is a SAME, too.");
        NobodyChecks x = new NobodyChecks();
        String[] isOf = {"0", "01", "02", "023", "014"};
        for (int kind = 0; kind <= 4; kind++) {
            x.pay(kind, 1, 1, 1, 1);
            for (int as = 0; as <= 4; as++) {
                Document.due(kind + " as " + as, x.as(kind, as), isOf[kind].indexOf('0' + as) >= 0 ? kind : NONE);
            }
        }
    }

    /** An object of so many PERSONS with one PAY. */
    private static NobodyChecks withPay(int persons, int kind, int... q) {
        NobodyChecks x = Due.asked(Edge.oneCase(1, 50, persons));
        x.pay(kind, q[0], q[1], q[2], q[3]);
        return x;
    }

    private static int answerOf(int answers, int person) {
        return answers / Edge.power(2, person) % 2;
    }

    private static void getsPay() {
        Document.says("What one gets for an answer x: a PAY q0;");
        for (int persons = 2; persons <= 4; persons++) {
            NobodyChecks x = withPay(persons, 0, 13, 1, 2, 3);
            for (int answers = 0; answers < 1 << persons; answers++) {
                for (int person = 0; person < persons; person++) {
                    Document.due("gets", x.gets(0, person, answers), 13);
                }
            }
        }
    }

    private static void getsSame() {
        Document.says("a SAME q0 for each other one who answers x;");
        for (int persons = 2; persons <= 4; persons++) {
            NobodyChecks x = withPay(persons, 1, 13, 1, 2, 3);
            for (int answers = 0; answers < 1 << persons; answers++) {
                for (int person = 0; person < persons; person++) {
                    Document.due("gets of " + answers, x.gets(0, person, answers), sameOf(13, persons, person, answers));
                }
            }
        }
    }

    private static int sameOf(int q0, int persons, int person, int answers) {
        int sum = -q0;
        for (int each = 0; each < persons; each++) {
            sum += answerOf(answers, each) == answerOf(answers, person) ? q0 : 0;
        }
        return sum;
    }

    private static int tableOf(int[] q, int persons, int person, int answers) {
        int x = answerOf(answers, person), sum = -q[2 * x + x];
        for (int each = 0; each < persons; each++) {
            sum += q[2 * x + answerOf(answers, each)];
        }
        return sum;
    }

    private static void getsTable() {
        Document.says("a TABLE for each other one, who answers y, q of 2 x and y;");
        int[] q = {1, 10, 100, 999};
        for (int persons = 2; persons <= 4; persons++) {
            NobodyChecks x = withPay(persons, 2, q);
            for (int answers = 0; answers < 1 << persons; answers++) {
                for (int person = 0; person < persons; person++) {
                    Document.due("gets of " + answers, x.gets(0, person, answers), tableOf(q, persons, person, answers));
                }
            }
        }
    }

    private static void getsRare() {
        Document.says("a RARE what a TABLE gives, and q of 2 x so many times more as those who answer x (it, too) are fewer than "
            + "those who answer the other;");
        int[] q = {1, 10, 100, 999};
        for (int persons = 2; persons <= 4; persons++) {
            NobodyChecks x = withPay(persons, 3, q);
            for (int answers = 0; answers < 1 << persons; answers++) {
                int ones = Integer.bitCount(answers), zeros = persons - ones;
                for (int person = 0; person < persons; person++) {
                    boolean isOne = answerOf(answers, person) == 1;
                    int fewer = isOne ? zeros - ones : ones - zeros;
                    int more = fewer > 0 ? fewer * (isOne ? q[2] : q[0]) : 0;
                    Document.due("gets of " + answers, x.gets(0, person, answers), tableOf(q, persons, person, answers) + more);
                }
            }
        }
    }

    private static void getsCheck() {
        Document.says("a CHECK what a SAME gives, and q1 hundredths of the times (100 at most) the house looks: q2 more, if x is "
            + "what it sees:");
        for (int persons = 2; persons <= 4; persons++) {
            NobodyChecks x = withPay(persons, 4, 13, 100, 999, 100);
            for (int answers = 0; answers < 1 << persons; answers++) {
                Document.due("without a look", x.gets(0, 0, answers), sameOf(13, persons, 0, answers));
            }
        }
        // All always see 1, and so does the house.
        for (int q1 = 0; q1 <= 100; q1++) {
            NobodyChecks x = Due.asked("1:100,100");
            x.pay(4, 13, q1, 300, 100);
            worthIs(x, 0, 0, 0, 13 + 3 * q1, 1);
            worthIs(x, 0, 1, 0, 0, 1);
            worthIs(x, 0, 10, 0, 13, 1);
            worthIs(x, 0, 15, 0, 13 + 3 * q1, 1);
        }
        Document.refused(new NobodyChecks(), "q1 101", y -> y.pay(4, 0, 101, 0, 0), OUTSIDE);
    }

    /** All SIGNS are certain; nobody looks, the house does. */
    private static void houseSees() {
        Document.says("it sees SIGN 1 with the CHANCE q3 (hundredths, 100 at most) if most PERSONS' SIGNS are 1, with 100 less q3 "
            + "if not.");
        for (int persons = 2; persons <= 4; persons++) {
            for (int signs = 0; signs < 1 << persons; signs++) {
                StringBuilder text = new StringBuilder("1:");
                for (int person = 0; person < persons; person++) {
                    text.append(person == 0 ? "" : ",").append(100 * answerOf(signs, person));
                }
                boolean most = 2 * Integer.bitCount(signs) > persons;
                for (int q3 : new int[] {0, 1, 50, 70, 100}) {
                    NobodyChecks x = Due.asked(text.toString());
                    x.pay(4, 0, 100, 100, q3);
                    worthIs(x, 0, 3, 0, most ? q3 : 100 - q3, 1);
                    worthIs(x, 0, 2, 0, most ? 100 - q3 : q3, 1);
                }
            }
        }
        Document.refused(new NobodyChecks(), "q3 101", y -> y.pay(4, 0, 0, 0, 101), OUTSIDE);
    }

    private static void profiles() {
        Document.says("A PROFILE: a WAY for each PERSON (figures of base 4, PERSON 0's lowest).");
        int[] costs = {1, 20, 300, 999};
        for (int persons = 2; persons <= 4; persons++) {
            for (int profile = 0; profile < Edge.power(4, persons); profile++) {
                NobodyChecks x = withPay(persons, 0, 0, 0, 0, 0);
                for (int person = 0; person < persons; person++) {
                    x.cost(person, costs[person]);
                    boolean looks = profile / Edge.power(4, person) % 4 < 2;
                    worthIs(x, 0, profile, person, looks ? -costs[person] : 0, 1);
                }
            }
        }
        // Who is TRUE, TURNED, answers 0, answers 1: 0, 1, 2, 3 from the lowest figure.
        NobodyChecks x = Due.asked("1:100,100,100,100");
        x.pay(1, 1, 0, 0, 0);
        worthIs(x, 0, 4 + 2 * 16 + 3 * 64, 0, 1, 1);
        worthIs(x, 0, 1 + 0 * 4 + 3 * 16 + 3 * 64, 0, 0, 1);
        worthIs(x, 0, 1 + 0 * 4 + 3 * 16 + 3 * 64, 1, 2, 1);
    }

    private static void worth() {
        Document.says("WORTH of a PERSON: what it gets on an average, less the COST if it looks.");
        for (Sample sample : Sample.ALL) {
            for (int pay = 0; pay < sample.pays(); pay++) {
                for (int profile = 0; profile < sample.profiles(); profile += sample.persons == 4 ? 5 : 1) {
                    for (int person = 0; person < sample.persons; person++) {
                        Plain.Part want = averageOf(sample, pay, profile, person);
                        Plain.Part got = sample.worth(pay, profile, person);
                        Document.holds(sample.name(pay) + ", PROFILE " + profile + ", PERSON " + person + ": " + got
                            + ", due is " + want, got.equals(want));
                    }
                }
            }
        }
    }

    /** By each CASE, by all SIGNS, by gets() of what is answered then. */
    private static Plain.Part averageOf(Sample sample, int pay, int profile, int person) {
        long weights = 0, sum = 0;
        for (String one : sample.text.split(";")) {
            String[] numbers = one.split("[:,]");
            weights += Long.parseLong(numbers[0]);
            for (int signs = 0; signs < 1 << sample.persons; signs++) {
                long likely = Long.parseLong(numbers[0]);
                int answers = 0;
                for (int each = 0; each < sample.persons; each++) {
                    int sign = answerOf(signs, each), chance = Integer.parseInt(numbers[1 + each]);
                    likely *= sign == 1 ? chance : 100 - chance;
                    int[] ways = {sign, 1 - sign, 0, 1};
                    answers += ways[Sample.wayOf(profile, each)] << each;
                }
                long gets = likely == 0 ? 0 : 10000L * sample.x().gets(pay, person, answers);
                sum += likely * (gets + houseAdds(sample, pay, signs, answerOf(answers, person)));
            }
        }
        Plain.Part average = Plain.Part.of(sum, weights * 10000 * (long) Math.pow(100, sample.persons));
        boolean looks = Sample.wayOf(profile, person) < 2;
        return looks ? average.less(Plain.Part.of(sample.cost(person), 1)) : average;
    }

    /** In parts of 10000. */
    private static long houseAdds(Sample sample, int pay, int signs, int answer) {
        if (sample.kindOf(pay) != 4) {
            return 0;
        }
        boolean most = 2 * Integer.bitCount(signs) > sample.persons;
        int seesMost = sample.numberOf(pay, 3);
        return (long) sample.numberOf(pay, 1) * sample.numberOf(pay, 2) * (most == (answer == 1) ? seesMost : 100 - seesMost);
    }
}
