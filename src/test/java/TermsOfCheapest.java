/** 'Terms' of the document, 3: TRUTH RESTS, the cheapest by trial, THINKS, MAY BE. */
final class TermsOfCheapest {
    private static final int NONE = NobodyChecks.NONE;

    private TermsOfCheapest() {
    }

    static void hold() {
        truthRests();
        leastSame();
        leastTable();
        leastLook();
        thinks();
        mayBe();
    }

    private static void truthRests() {
        Document.says("======== 3 TRUTH RESTS under a PAY, if the PROFILE all TRUE is at rest.");
        for (Sample sample : Sample.ALL) {
            for (int pay = 0; pay < sample.pays(); pay++) {
                // With e 0 all that may be is THE QUESTION as it is.
                int all = 1 + 2 * sample.text.split(";").length * sample.persons;
                Document.due(sample.name(pay), sample.x().mayBe(pay, 0), sample.first(pay, 0) == NONE ? all : 0);
            }
        }
    }

    private static void leastSame() {
        Document.says("LEAST SAME: the least q0 (0 to 999) by which a SAME lets truth rest.");
        for (Sample sample : Sample.ALL) {
            int least = NONE;
            for (int q0 = 0; q0 <= 999 && least == NONE; q0++) {
                least = sample.truthRests(sample.text, 1, q0, 0, 0, 0) == 1 ? q0 : NONE;
            }
            Document.due(sample.text, sample.x().leastSame(), least);
        }
        // Truth leads by half of it: 999 is enough for a COST of 499, not of 500.
        NobodyChecks x = Edge.withCost(Edge.allSee(1, 1, 2), 499);
        Document.due("998", x.leastSame(), 998);
        Document.due("1000 would be", Edge.withCost(x, 500).leastSame(), NONE);
        Document.due("999", Edge.withCost(Edge.allSee(2, 1, 2), 333).leastSame(), 999);
    }

    private static void leastTable() {
        Document.says("LEAST TABLE: of all TABLES with q0 to q3 from 0 to 9 by which truth rests the one for which all together "
            + "get least on an average by truth; of like ones of least q0, then q1, q2, q3.");
        for (int k = 0; k < 6; k++) {
            Sample sample = Sample.ALL[k];
            int many = 0;
            int[] want = {NONE, NONE, NONE, NONE};
            Plain.Part least = null;
            for (int number = 0; number < 10000; number++) {
                int[] q = {number / 1000, number / 100 % 10, number / 10 % 10, number % 10};
                if (sample.truthRests(sample.text, 2, q) == 1) {
                    many++;
                    Plain.Part price = priceOf(sample, q);
                    if (least == null || least.isMoreThan(price)) {
                        least = price;
                        want = q;
                    }
                }
            }
            for (int what = 0; what <= 4; what++) {
                NobodyChecks x = sample.withoutPays(sample.text);
                Document.due(sample.text + ": " + what, x.leastTable(what), what == 4 ? many : want[what]);
            }
        }
        // All always see 1: by truth they get q3, 0 at least; q0 and q2 may be what they like.
        for (int what = 0; what <= 3; what++) {
            Document.due("of like ones", Due.asked("1:100,100").leastTable(what), 0);
            Document.due("of like ones", Due.asked("1:0,0,0,0").leastTable(what), 0);
        }
    }

    /** What all together are WORTH by truth; the COSTS are like for all TABLES. */
    private static Plain.Part priceOf(Sample sample, int[] q) {
        NobodyChecks x = sample.withoutPays(sample.text);
        x.pay(2, q[0], q[1], q[2], q[3]);
        Plain.Part sum = Plain.Part.of(0, 1);
        for (int person = 0; person < sample.persons; person++) {
            sum = sum.plus(Plain.Part.of(x.worth(0, 0, person, 0), x.worth(0, 0, person, 1)));
        }
        return sum;
    }

    private static void leastLook() {
        Document.says("LEAST LOOK: of a CHECK the least q1 (0 to 100) by which truth rests, all else as it is.");
        int[][] checks = {{0, 50, 200, 100}, {4, 20, 30, 90}, {1, 0, 40, 75}, {9, 100, 999, 60}, {3, 7, 500, 20}};
        for (Sample sample : Sample.ALL) {
            for (int[] q : checks) {
                int least = NONE;
                for (int q1 = 0; q1 <= 100 && least == NONE; q1++) {
                    least = sample.truthRests(sample.text, 4, q[0], q1, q[2], q[3]) == 1 ? q1 : NONE;
                }
                NobodyChecks x = sample.withoutPays(sample.text);
                x.pay(4, q[0], q[1], q[2], q[3]);
                Document.due(sample.text + ", q0 " + q[0], x.leastLook(0), least);
                Document.due("its q1 stays", x.about(0, 1), q[1]);
            }
        }
        Document.due("100", hundredLooks(100), 100);
        Document.due("101 would be", hundredLooks(101), NONE);
    }

    /** With q2 200 truth leads by q1. */
    private static int hundredLooks(int cost) {
        NobodyChecks x = Edge.withCost(Edge.allSee(1, 1, 2), cost);
        return x.leastLook(x.pay(4, 0, 0, 200, 100));
    }

    private static void thinks() {
        Document.says("THINKS: the chance that PERSON j saw SIGN 1, if PERSON i saw a SIGN (none, if i never sees that).");
        for (Sample sample : Sample.ALL) {
            for (int i = 0; i < sample.persons; i++) {
                for (int j = 0; j < sample.persons; j++) {
                    for (int sign = 0; sign <= 1 && i != j; sign++) {
                        thinks(sample, i, sign, j);
                    }
                }
            }
        }
    }

    private static void thinks(Sample sample, int i, int sign, int j) {
        long saw = 0, both = 0;
        for (String one : sample.text.split(";")) {
            String[] numbers = one.split("[:,]");
            long chance = Long.parseLong(numbers[1 + i]);
            long here = Long.parseLong(numbers[0]) * (sign == 1 ? chance : 100 - chance);
            saw += here * 100;
            both += here * Long.parseLong(numbers[1 + j]);
        }
        for (int part = 0; part <= 1; part++) {
            long want = saw == 0 ? NONE : Plain.Part.of(both, saw).part(part);
            Document.due(sample.text + ": " + i + " who saw " + sign + " of " + j, sample.x().thinks(i, sign, j, part), want);
        }
    }

    private static void mayBe() {
        Document.says("MAY BE: THE QUESTION as it is, and, for each CASE and PERSON, with that one CHANCE e hundredths less (0 at "
            + "least), and e more (100 at most): in how many of these truth rests under a PAY.");
        for (Sample sample : Sample.ALL) {
            for (int pay = 0; pay < sample.pays(); pay++) {
                for (int e : new int[] {0, 1, 7, 30, 100}) {
                    Document.due(sample.name(pay) + ", e " + e, sample.x().mayBe(pay, e), howMany(sample, pay, e));
                }
            }
        }
    }

    /** Each QUESTION that may be is told as a text of its own. */
    private static int howMany(Sample sample, int pay, int e) {
        int kind = sample.kindOf(pay);
        int[] q = new int[4];
        for (int place = 0; place < 4; place++) {
            q[place] = sample.numberOf(pay, place);
        }
        int counted = sample.truthRests(sample.text, kind, q);
        String[] cases = sample.text.split(";");
        for (int c = 0; c < cases.length; c++) {
            for (int person = 0; person < sample.persons; person++) {
                counted += sample.truthRests(changed(cases, c, person, -e), kind, q);
                counted += sample.truthRests(changed(cases, c, person, e), kind, q);
            }
        }
        return counted;
    }

    private static String changed(String[] cases, int c, int person, int by) {
        String[] told = cases.clone();
        String[] numbers = told[c].split("[:,]");
        int chance = Integer.parseInt(numbers[1 + person]) + by;
        numbers[1 + person] = "" + Math.max(0, Math.min(100, chance));
        told[c] = String.join(",", numbers).replaceFirst(",", ":");
        return String.join(";", told);
    }
}
