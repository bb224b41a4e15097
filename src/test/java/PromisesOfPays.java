/** Promises 1 to 13 of the document: a new object, the question, pays. */
final class PromisesOfPays {
    private static final int NONE = NobodyChecks.NONE, UNKNOWN = NobodyChecks.UNKNOWN, OUTSIDE = NobodyChecks.OUTSIDE,
        STATE = NobodyChecks.STATE, FULL = NobodyChecks.FULL;
    private static final int[] FAR = {Integer.MIN_VALUE, Integer.MAX_VALUE};

    private PromisesOfPays() {
    }

    static void hold() {
        newObject();
        letters();
        blank();
        fault();
        question();
        chance();
        cost();
        thinks();
        pay();
        as();
        about();
        gets();
        worth();
    }

    private static void newObject() {
        Document.heads("## Promise 1: A new object `NobodyChecks()`:");
        Document.says("No question, no pays.");
        for (int what = 0; what <= 5; what++) {
            Document.due("count(" + what + ")", new NobodyChecks().count(what), 0);
        }
        Document.due("no CASE", new NobodyChecks().chance(0, NONE), UNKNOWN);
        Document.due("no PAY", new NobodyChecks().about(0, 4), UNKNOWN);
    }

    private static void letters() {
        Document.heads("## Promise 2: letters `int letters(long w)`:");
        Document.says("Letters come behind THE PAGE, up to eight, told by their codes in the bytes of w, the lowest byte first, until a "
            + "byte that is 0: how many THE PAGE has.");
        for (int many = 0; many <= 8; many++) {
            NobodyChecks x = new NobodyChecks();
            Due.write(x, "1:");
            Document.due(many + " letters", x.letters(Due.packed("5,67;8:9".substring(0, many), 0)), 2 + many);
            Document.due("as many", x.blank(), 2 + many);
        }
        NobodyChecks x = new NobodyChecks();
        x.letters(Due.packed("1:23,45;", 0));
        x.letters(Due.packed("67:8,9", 0));
        Document.due("read in their order", x.question(), 2);
        Document.due("the first", x.chance(0, 0), 23);
        Document.due("the last", x.chance(1, 1), 9);
        outside();
        full();
    }

    private static void outside() {
        Document.says("OUTSIDE: a byte above 126, or one behind a 0 that is not 0;");
        for (int place = 0; place < 8; place++) {
            long ahead = (1L << 8 * place) - 1 & 0x4141414141414141L;
            for (int code = 0; code <= 255; code++) {
                NobodyChecks x = new NobodyChecks();
                int want = code > 126 ? OUTSIDE : place + (code == 0 ? 0 : 1);
                Document.due("code " + code + " at " + place, x.letters(ahead | (long) code << 8 * place), want);
            }
            long behind = place == 7 ? 0 : 0x41L << 8 * (place + 1);
            Document.due("behind a 0 at " + place, new NobodyChecks().letters(ahead | behind), behind == 0 ? 7 : OUTSIDE);
            Document.due("far behind a 0", new NobodyChecks().letters(ahead | 1L << 56), place == 7 ? 8 : OUTSIDE);
        }
    }

    private static void full() {
        Document.says("FULL: above 90.");
        for (int size = 80; size <= 90; size++) {
            for (int more = 0; more <= 8; more++) {
                NobodyChecks x = new NobodyChecks();
                Due.write(x, Edge.many("7", "", size));
                int want = size + more > 90 ? FULL : size + more;
                Document.due(more + " behind " + size, x.letters(Due.packed("77777777".substring(0, more), 0)), want);
                Document.due("letters", x.count(4), want == FULL ? size : want);
            }
        }
    }

    private static void blank() {
        Document.heads("## Promise 3: blank `int blank()`:");
        Document.says("THE PAGE is empty: how many letters it had.");
        for (int size = 0; size <= 90; size++) {
            NobodyChecks x = new NobodyChecks();
            Due.write(x, Edge.many(";", "", size));
            Document.due("it had", x.blank(), size);
            Document.due("empty", x.count(4), 0);
            Document.due("it has none now", x.blank(), 0);
        }
    }

    /** A letter is a fault where no text goes on so; here those that do are told as a rule of places. */
    private static void fault() {
        Document.heads("## Promise 4: fault `int fault()`:");
        Document.says("The place (from 0) of the first letter of THE PAGE that no QUESTION (of any length, but CASES and PERSONS no more "
            + "than told) has there, behind those ahead of it;");
        String[] ahead = {"", "0", "1", "12", "1:", "1:0", "1:1", "1:10", "1:100", "1:5,", "1:5,6", "1:5,6,7,8", "1:5,6;", "1:5,6;7:8",
            "1:5,6;7:8,9", "1:5,6;1:5,6;1:5,6;1:5,6;1:5,6"};
        String[] then = {"0123456789", "123456789", "0123456789:", ":", "0123456789", ",", "0123456789,", "0,", ",", "0123456789", "0123456789,;",
            "0123456789;", "0123456789", "0123456789,", "0123456789;", "0123456789"};
        for (int k = 0; k < ahead.length; k++) {
            for (int code = 1; code <= 126; code++) {
                NobodyChecks x = new NobodyChecks();
                Due.write(x, ahead[k] + (char) code + "?");
                boolean mayBe = then[k].indexOf(code) >= 0;
                Document.due(ahead[k] + (char) code, x.fault(), ahead[k].length() + (mayBe ? 1 : 0));
            }
        }
        Document.says("how many letters it has, if there is none.");
        String one = "99:100,100,100,100";
        String whole = Edge.many(one, ";", 5);
        for (int size = 0; size <= 90; size++) {
            NobodyChecks x = new NobodyChecks();
            Due.write(x, whole.substring(0, size));
            Document.due(size + " of " + whole.length() + " letters", x.fault(), size);
        }
    }

    private static void question() {
        Document.heads("## Promise 5: question `int question()`:");
        Document.says("THE PAGE is read as THE QUESTION (another one is gone, with all COSTS and ROWS): how many PERSONS; THE PAGE is empty "
            + "then.");
        NobodyChecks x = Due.asked("1:2,3,4;5:6,7,8");
        x.cost(0, 9);
        x.cost(1, 9);
        x.row(0, NONE);
        x.pay(1, 5, 0, 0, 0);
        x.pay(0, 7, 0, 0, 0);
        x.worth(0, 0, 0, 0);
        x.worth(1, 0, 0, 0);
        Due.write(x, "10:20,30");
        Document.due("PERSONS", x.question(), 2);
        Document.due("CASES", x.count(0), 1);
        Document.due("its WEIGHT", x.chance(0, NONE), 10);
        Document.due("its CHANCE", x.chance(0, 1), 30);
        Document.due("a CASE that is gone", x.chance(1, 0), UNKNOWN);
        Document.due("a PERSON that is gone", x.chance(0, 2), UNKNOWN);
        Document.due("COST of 0", x.cost(0, 0), 0);
        Document.due("COST of 1", x.cost(1, 0), 0);
        Document.due("ROWS", x.count(3), 0);
        Document.due("PAYS stay", x.count(2), 2);
        Document.due("THE PAGE", x.count(4), 0);
        // Both see the same in 600 and 5600 of 10000: 5 times that.
        Document.due("WORTH above", x.worth(0, 0, 0, 0), 31);
        Document.due("WORTH below", x.worth(0, 0, 0, 1), 10);
        Document.due("WORTH of a PAY", x.worth(1, 0, 1, 0), 7);
        Document.says("STATE: it is none.");
        String[] none = {"", "1", "1:", "1:2", "1:2,", "1:2,3;", "1:2,3;4", "1:2,3;4:", "1:2,3;4:5", "1:2,3;4:5,", "1:2,3?", "?1:2,3"};
        for (String text : none) {
            Due.write(x, text);
            Document.refused(x, text, y -> y.question(), STATE);
            Document.due("THE PAGE stays", x.blank(), text.length());
        }
        Document.due("THE QUESTION stays", x.chance(0, 1), 30);
    }

    private static void chance() {
        Document.heads("## Promise 6: chance `int chance(int c, int person)`:");
        Document.says("Of a CASE: its WEIGHT (person NONE), or the CHANCE of a PERSON.");
        NobodyChecks x = Due.asked("11:12,13,14;21:22,23,24");
        for (int c = 0; c < 2; c++) {
            for (int person = NONE; person < 3; person++) {
                Document.due("chance(" + c + ", " + person + ")", x.chance(c, person), 10 * (c + 1) + person + 2);
            }
        }
        Document.says("UNKNOWN.");
        for (int c : new int[] {-1, 2, FAR[0], FAR[1]}) {
            Document.due("CASE " + c, x.chance(c, 0), UNKNOWN);
            Document.due("CASE " + c, x.chance(c, NONE), UNKNOWN);
        }
        for (int person : new int[] {-2, 3, FAR[0], FAR[1]}) {
            Document.due("PERSON " + person, x.chance(0, person), UNKNOWN);
        }
    }

    private static void cost() {
        Document.heads("## Promise 7: cost `int cost(int person, int v)`:");
        Document.says("COST of a PERSON becomes v: what it was.");
        NobodyChecks x = Due.asked("1:2,3,4");
        int[][] costs = {{5, 6, 7}, {999, 0, 1}, {0, 0, 0}};
        int[] was = {0, 0, 0};
        for (int[] then : costs) {
            for (int person = 0; person < 3; person++) {
                Document.due("it was", x.cost(person, then[person]), was[person]);
            }
            was = then;
        }
        Document.says("UNKNOWN; OUTSIDE.");
        for (int wrong : new int[] {-1, 3, FAR[0], FAR[1]}) {
            Document.refused(x, "PERSON " + wrong, y -> y.cost(wrong, 5), UNKNOWN);
            Document.refused(x, "PERSON " + wrong + ", and v", y -> y.cost(wrong, -1), UNKNOWN);
        }
        for (int wrong : new int[] {-1, 1000, FAR[0], FAR[1]}) {
            Document.refused(x, "v " + wrong, y -> y.cost(0, wrong), OUTSIDE);
        }
    }

    private static void thinks() {
        Document.heads("## Promise 8: thinks `long thinks(int i, int sign, int j, int part)`:");
        Document.says("THINKS: part 0 above, 1 below;");
        NobodyChecks x = Due.asked("3:80,50;1:20,0");
        // PERSON 0 saw 1: 240 and 20 of 260; the other one then sees 1 in half of the 240.
        Document.due("above", x.thinks(0, 1, 1, 0), 6);
        Document.due("below", x.thinks(0, 1, 1, 1), 13);
        Document.says("NONE: i never sees that.");
        NobodyChecks never = Due.asked("3:100,0;1:100,0");
        for (int part = 0; part <= 1; part++) {
            Document.due("never 0", never.thinks(0, 0, 1, part), NONE);
            Document.due("never 1", never.thinks(1, 1, 0, part), NONE);
        }
        Document.due("seldom", Due.asked("99:100,0;1:99,0").thinks(0, 0, 1, 0), 0);
        Document.says("UNKNOWN: i, j, or they are the same; OUTSIDE: sign, part.");
        for (int wrong : new int[] {-1, 2, FAR[0], FAR[1]}) {
            Document.due("i", x.thinks(wrong, 0, 1, 0), UNKNOWN);
            Document.due("j", x.thinks(0, 0, wrong, 0), UNKNOWN);
            Document.due("i, sign and part", x.thinks(wrong, 2, 1, 2), UNKNOWN);
            Document.due("sign", x.thinks(0, wrong, 1, 0), OUTSIDE);
            Document.due("part", x.thinks(0, 1, 1, wrong), OUTSIDE);
            Document.due("part where i never sees that", never.thinks(0, 0, 1, wrong), OUTSIDE);
        }
        Document.due("the same", x.thinks(1, 0, 1, 0), UNKNOWN);
        Document.due("the same, and part", x.thinks(0, 0, 0, 2), UNKNOWN);
    }

    private static void pay() {
        Document.heads("## Promise 9: pay `int pay(int kind, int q0, int q1, int q2, int q3)`:");
        Document.says("A PAY: its number.");
        NobodyChecks x = new NobodyChecks();
        for (int number = 0; number < 8; number++) {
            Document.due("number", x.pay(number % 5, number, 0, 0, 0), number);
        }
        Document.says("OUTSIDE: kind, a number (of a CHECK q1, q3 above 100, too);");
        for (int kind = 0; kind <= 4; kind++) {
            for (int place = 0; place < 4; place++) {
                int most = kind == 4 && place % 2 == 1 ? 100 : 999;
                for (int number : new int[] {-1, 0, 100, 101, 999, 1000, FAR[0], FAR[1]}) {
                    int[] q = {1, 1, 1, 1};
                    q[place] = number;
                    int want = number < 0 || number > most ? OUTSIDE : 0;
                    Document.due(kind + ", q" + place + " " + number, new NobodyChecks().pay(kind, q[0], q[1], q[2], q[3]), want);
                }
            }
        }
        for (int kind : new int[] {-1, 5, FAR[0], FAR[1]}) {
            Document.refused(x, "kind " + kind, y -> y.pay(kind, 1, 1, 1, 1), OUTSIDE);
        }
        Document.says("FULL.");
        Document.refused(x, "the ninth", y -> y.pay(0, 1, 1, 1, 1), FULL);
    }

    /** An object with a PAY of each KIND. */
    private static NobodyChecks withKinds(String text) {
        NobodyChecks x = Due.asked(text);
        for (int kind = 0; kind <= 4; kind++) {
            x.pay(kind, 10 + kind, 20 + kind, 30 + kind, 40 + kind);
        }
        return x;
    }

    private static void as() {
        Document.heads("## Promise 10: as `int as(int pay, int kind)`:");
        NobodyChecks x = withKinds("1:2,3");
        Document.says("A PAY taken as a KIND: its number;");
        for (int kind = 0; kind <= 4; kind++) {
            Document.due("as it is", x.as(kind, kind), kind);
            Document.due("as a PAY", x.as(kind, 0), kind);
        }
        Document.due("RARE as a TABLE", x.as(3, 2), 3);
        Document.due("CHECK as a SAME", x.as(4, 1), 4);
        Document.says("NONE: it is none such (the cast fails).");
        int[][] none = {{0, 1}, {0, 2}, {0, 3}, {0, 4}, {1, 2}, {1, 3}, {1, 4}, {2, 1}, {2, 3}, {2, 4}, {3, 1}, {3, 4}, {4, 2}, {4, 3}};
        for (int[] pair : none) {
            Document.due(pair[0] + " as " + pair[1], x.as(pair[0], pair[1]), NONE);
        }
        Document.says("UNKNOWN; OUTSIDE.");
        for (int wrong : new int[] {-1, 5, FAR[0], FAR[1]}) {
            Document.due("pay " + wrong, x.as(wrong, 0), UNKNOWN);
            Document.due("pay and kind " + wrong, x.as(wrong, wrong), UNKNOWN);
            Document.due("kind " + wrong, x.as(0, wrong), OUTSIDE);
        }
    }

    private static void about() {
        Document.heads("## Promise 11: about `int about(int pay, int what)`:");
        Document.says("One of a PAY's numbers (0 to 3), its KIND (4).");
        NobodyChecks x = withKinds("1:2,3");
        for (int kind = 0; kind <= 4; kind++) {
            for (int what = 0; what <= 3; what++) {
                Document.due("q" + what, x.about(kind, what), 10 * (what + 1) + kind);
            }
            Document.due("KIND", x.about(kind, 4), kind);
        }
        Document.says("UNKNOWN; OUTSIDE.");
        for (int wrong : new int[] {-1, 5, FAR[0], FAR[1]}) {
            Document.due("pay " + wrong, x.about(wrong, 0), UNKNOWN);
            Document.due("pay and what " + wrong, x.about(wrong, wrong), UNKNOWN);
            Document.due("what " + wrong, x.about(0, wrong), OUTSIDE);
        }
    }

    private static void gets() {
        Document.heads("## Promise 12: gets `int gets(int pay, int person, int answers)`:");
        Document.says("What a PERSON gets, if all answer so (bits of PERSONS), and the house does not look.");
        NobodyChecks x = withKinds("1:2,3,4");
        // PERSON 0 answers 1, 1 and 2 answer 0: of a RARE PERSON 0 gets its q2 once more.
        int[][] want = {{10, 10, 10}, {0, 11, 11}, {32 + 32, 12 + 22, 12 + 22}, {33 + 33 + 33, 13 + 23, 13 + 23}, {0, 14, 14}};
        for (int pay = 0; pay <= 4; pay++) {
            for (int person = 0; person < 3; person++) {
                Document.due("PAY " + pay + " of " + person, x.gets(pay, person, 1), want[pay][person]);
            }
        }
        Document.says("UNKNOWN: pay, person; OUTSIDE: answers.");
        for (int wrong : new int[] {-1, 8, FAR[0], FAR[1]}) {
            Document.due("pay " + wrong, x.gets(wrong, 0, 0), UNKNOWN);
            Document.due("person " + wrong, x.gets(0, wrong, 0), UNKNOWN);
            Document.due("person and answers " + wrong, x.gets(0, wrong, wrong), UNKNOWN);
            Document.due("answers " + wrong, x.gets(0, 0, wrong), OUTSIDE);
        }
        Document.due("the next pay", x.gets(5, 0, 0), UNKNOWN);
        Document.due("the next person", x.gets(0, 3, 0), UNKNOWN);
        Document.due("all answer 1", x.gets(1, 0, 7), 22);
    }

    private static void worth() {
        Document.heads("## Promise 13: worth `long worth(int pay, int profile, int person, int part)`:");
        Document.says("WORTH: part 0 above (it may be below 0), 1 below.");
        NobodyChecks x = Due.asked("3:80,50;1:20,0");
        x.pay(1, 1, 0, 0, 0);
        // Both see the same in 12000 and 11000 of 40000.
        Document.due("above", x.worth(0, 0, 0, 0), 23);
        Document.due("below", x.worth(0, 0, 0, 1), 40);
        x.cost(0, 999);
        Document.due("below 0", x.worth(0, 0, 0, 0), 23 - 999 * 40);
        Document.due("its part below", x.worth(0, 0, 0, 1), 40);
        long unknown = -2000000000000000001L, outside = -2000000000000000002L;
        Document.says("UNKNOWN (pay, person): -2000000000000000001; OUTSIDE (profile, part): -2000000000000000002.");
        for (int wrong : new int[] {-1, 2, FAR[0], FAR[1]}) {
            Document.due("pay", x.worth(wrong, 0, 0, 0), unknown);
            Document.due("person", x.worth(0, 0, wrong, 0), unknown);
            Document.due("person and part", x.worth(0, 16, wrong, 2), unknown);
            Document.due("part", x.worth(0, 0, 0, wrong), outside);
        }
        for (int wrong : new int[] {-1, 16, FAR[0], FAR[1]}) {
            Document.due("profile", x.worth(0, wrong, 0, 0), outside);
        }
        NobodyChecks none = new NobodyChecks();
        none.pay(0, 1, 0, 0, 0);
        Document.due("without a QUESTION nobody is a PERSON", none.worth(0, 0, 0, 0), unknown);
    }
}
