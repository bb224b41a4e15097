import java.util.ArrayList;
import java.util.List;

/** The boundary cases of the text of a QUESTION, and of promises 1 to 8: a method for each sentence. */
public final class EdgesOfQuestionTest {
    private static final int NONE = NobodyChecks.NONE, UNKNOWN = NobodyChecks.UNKNOWN,
        OUTSIDE = NobodyChecks.OUTSIDE, STATE = NobodyChecks.STATE, FULL = NobodyChecks.FULL;

    public static void main(String[] args) {
        oneToFiveCases();
        weights();
        chances();
        twoToFourPersons();
        asManyInAllCases();
        signsBetween();
        nothingAtFirst();
        upToEightLetters();
        untilZero();
        codesAbove();
        aboveNinety();
        emptyPage();
        firstFault();
        noFault();
        ofAnyLength();
        pageIsRead();
        anotherIsGone();
        asIfTheFirst();
        pageIsNone();
        caseOrPersonUnknown();
        costs();
        neverSees();
        thinksRefused();
        Due.end();
    }

    private static NobodyChecks paged(String text) {
        NobodyChecks x = new NobodyChecks();
        Due.write(x, text);
        return x;
    }

    /** The text is a QUESTION of so many CASES and PERSONS. */
    private static NobodyChecks isQuestion(String text, int cases, int persons) {
        NobodyChecks x = paged(text);
        Edge.due("fault of " + text, x.fault(), text.length());
        Edge.due("question of " + text, x.question(), persons);
        Edge.due("CASES of " + text, x.count(0), cases);
        Edge.due("PERSONS of " + text, x.count(1), persons);
        Edge.due("THE PAGE behind " + text, x.count(4), 0);
        return x;
    }

    /** The text is no QUESTION; its first fault is at the place. */
    private static void isNone(String text, int fault) {
        NobodyChecks x = paged(text);
        Edge.due("fault of " + text, x.fault(), fault);
        Edge.refused(x, "question of " + text, NobodyChecks::question, STATE);
    }

    private static void oneToFiveCases() {
        Edge.says("CASES (1 to 5) with \";\" between");
        isNone("", 0);
        for (int persons = 2; persons <= 4; persons++) {
            String one = Edge.oneCase(7, 5, persons);
            for (int cases = 1; cases <= 5; cases++) {
                isQuestion(Edge.many(one, ";", cases), cases, persons);
            }
            // The fifth CASE is the last one: nothing but its end may come.
            isNone(Edge.many(one, ";", 5) + ";", 5 * one.length() + 4);
            isNone(Edge.many(one, ";", 6), 5 * one.length() + 4);
        }
    }

    private static void weights() {
        Edge.says("a WEIGHT (one or two digits, 1 to 99)");
        for (int weight = 1; weight <= 99; weight++) {
            NobodyChecks x = isQuestion(weight + ":1,2", 1, 2);
            Edge.due("WEIGHT", x.chance(0, NONE), weight);
            x = isQuestion("3:1,2;" + weight + ":3,4", 2, 2);
            Edge.due("WEIGHT of the second CASE", x.chance(1, NONE), weight);
        }
        isNone(":1,2", 0);
        isNone("0:1,2", 1);
        isNone("00:1,2", 1);
        isNone("000:1,2", 1);
        isNone("100:1,2", 2);
        isNone("990:1,2", 2);
        isNone("1:1,2;:1,2", 6);
        isNone("1:1,2;0:1,2", 7);
        isNone("1:1,2;00:1,2", 7);
        isNone("1:1,2;100:1,2", 8);
        // Nothing rules out a 0 ahead of a WEIGHT: two digits, 1 to 99.
        Edge.due("WEIGHT 01", isQuestion("01:1,2", 1, 2).chance(0, NONE), 1);
        Edge.due("WEIGHT 09", isQuestion("1:1,2;09:1,2", 2, 2).chance(1, NONE), 9);
    }

    private static void chances() {
        Edge.says("CHANCES (one to three digits, 0 to 100, without a 0 ahead of others)");
        for (int chance = 0; chance <= 100; chance++) {
            NobodyChecks x = isQuestion("1:" + chance + ",7;1:8," + chance, 2, 2);
            Edge.due("CHANCE of PERSON 0", x.chance(0, 0), chance);
            Edge.due("CHANCE of PERSON 1", x.chance(1, 1), chance);
        }
        String[] wrong = {"", "00", "01", "000", "001", "010", "0100", "101", "109", "110", "199", "200", "999", "1000", "1001"};
        int[] places = {0, 1, 1, 1, 1, 1, 1, 2, 2, 2, 2, 2, 2, 3, 3};
        for (int k = 0; k < wrong.length; k++) {
            isNone("1:" + wrong[k] + ",7", 2 + places[k]);
            isNone("1:7," + wrong[k] + ",8", 4 + places[k]);
            isNone("1:7,8;1:7," + wrong[k] + ";", 10 + places[k]);
        }
        isNone("1:7,", 4);
    }

    private static void twoToFourPersons() {
        Edge.says("one for each PERSON: 2 to 4");
        isNone("1", 1);
        isNone("1:", 2);
        isNone("1;", 1);
        isNone("1:;", 2);
        isNone("1:5", 3);
        isNone("1:5;", 3);
        for (int persons = 2; persons <= 4; persons++) {
            isQuestion(Edge.oneCase(1, 5, persons), 1, persons);
            isQuestion(Edge.oneCase(1, 100, persons), 1, persons);
        }
        isNone("1:5,5,5,5,", 9);
        isNone("1:5,5,5,5,5", 9);
        isNone("1:100,100,100,100,1", 17);
    }

    private static void asManyInAllCases() {
        Edge.says("in all CASES as many");
        for (int first = 2; first <= 4; first++) {
            String ahead = Edge.oneCase(1, 5, first) + ";";
            isNone(ahead, ahead.length());
            isNone(ahead + "1", ahead.length() + 1);
            isNone(ahead + "1:", ahead.length() + 2);
            for (int second = 1; second < first; second++) {
                String fewer = ahead + Edge.oneCase(1, 5, second);
                isNone(fewer, fewer.length());
                isNone(fewer + ";", fewer.length());
            }
            String asMany = ahead + Edge.oneCase(1, 5, first);
            isQuestion(asMany, 2, first);
            isNone(asMany + ",", asMany.length());
            isNone(asMany + ",5", asMany.length());
            String third = asMany + ";" + Edge.oneCase(1, 5, first - 1);
            isNone(third, third.length());
            isQuestion(third + ",5", 3, first);
        }
    }

    private static void signsBetween() {
        Edge.says("with \";\" between: a WEIGHT, \":\", CHANCES with \",\" between");
        String[] wrong = {";1:5,6", "1:5,6;;1:5,6", "1:5,6;", "1:5,,6", "1:,5,6", "1:5,6,", "1::5,6", "1:5:6", "1,5,6",
            "1:5;6", "1:5,6:", "1:5,6 ", " 1:5,6", "1 :5,6", "1:5,6.", "1:5,-6", "1:5,6;x"};
        int[] places = {0, 6, 6, 4, 2, 6, 2, 3, 1, 3, 5, 5, 0, 1, 5, 4, 6};
        for (int k = 0; k < wrong.length; k++) {
            isNone(wrong[k], places[k]);
        }
        // The codes just below 0 and just above ; are no letters of a QUESTION.
        String[] strange = {"/", "<", "+", "-", ".", "\u0001", "~", "a"};
        for (String letter : strange) {
            isNone(letter, 0);
            isNone("1" + letter, 1);
            isNone("1:" + letter, 2);
            isNone("1:5" + letter, 3);
            isNone("1:5," + letter, 4);
            isNone("1:5,6" + letter, 5);
        }
    }

    private static void nothingAtFirst() {
        Edge.says("No question, no pays.");
        NobodyChecks x = new NobodyChecks();
        for (int what = 0; what <= 5; what++) {
            Edge.due("count(" + what + ")", x.count(what), 0);
        }
        Edge.refused(x, "chance", y -> y.chance(0, NONE), UNKNOWN);
        Edge.refused(x, "cost", y -> y.cost(0, 0), UNKNOWN);
        Edge.refused(x, "as", y -> y.as(0, 0), UNKNOWN);
        Edge.refused(x, "crowd", y -> y.crowd(0, 0), UNKNOWN);
        Edge.refused(x, "leastSame", NobodyChecks::leastSame, STATE);
        Edge.due("the first PAY", x.pay(0, 0, 0, 0, 0), 0);
        Edge.due("another object has none", new NobodyChecks().count(2), 0);
    }

    private static void upToEightLetters() {
        Edge.says("Letters come behind THE PAGE, up to eight");
        String text = "1:5,6;2:7,8";
        for (int size = 0; size <= 8; size++) {
            NobodyChecks x = new NobodyChecks();
            Edge.due(size + " letters", x.letters(Due.packed(text.substring(0, size), 0)), size);
            Edge.due("the rest behind them", Due.write(x, text.substring(size)), text.length());
            Edge.due("told in order", x.question(), 2);
            Edge.due("the last CHANCE", x.chance(1, 1), 8);
        }
    }

    private static void untilZero() {
        Edge.says("until a byte that is 0 .. OUTSIDE: one behind a 0 that is not 0");
        NobodyChecks x = paged("1:");
        Edge.due("no letters", x.letters(0), 2);
        for (int zero = 0; zero < 8; zero++) {
            for (int behind = zero + 1; behind < 8; behind++) {
                long w = Due.packed("1234567", 0) & ((1L << (8 * zero)) - 1) | (long) '1' << (8 * behind);
                Edge.refused(x, "letters with a 0 at " + zero + ", one at " + behind, y -> y.letters(w), OUTSIDE);
            }
        }
        Edge.due("two letters still", x.count(4), 2);
    }

    private static void codesAbove() {
        Edge.says("OUTSIDE: a byte above 126");
        long ones = 0x0101010101010101L;
        for (int place = 0; place < 8; place++) {
            NobodyChecks x = paged("1:");
            long ahead = ones & ((1L << (8 * place)) - 1);
            int[] above = {127, 128, 129, 254, 255};
            for (int code : above) {
                long w = ahead | (long) code << (8 * place);
                Edge.refused(x, "code " + code + " at " + place, y -> y.letters(w), OUTSIDE);
            }
            Edge.due("code 126 at " + place, x.letters(ahead | 126L << (8 * place)), 2 + place + 1);
            Edge.due("code 1 at " + place, x.letters(ahead | 1L << (8 * place)), 2 + 2 * (place + 1));
        }
        NobodyChecks x = new NobodyChecks();
        Edge.due("eight of 126", x.letters(126 * ones), 8);
        Edge.refused(x, "eight of 127", y -> y.letters(127 * ones), OUTSIDE);
        Edge.refused(x, "all bits", y -> y.letters(-1L), OUTSIDE);
        Edge.refused(x, "the least long", y -> y.letters(Long.MIN_VALUE), OUTSIDE);
        Edge.refused(x, "the greatest long", y -> y.letters(Long.MAX_VALUE), OUTSIDE);
    }

    private static void aboveNinety() {
        Edge.says("FULL: above 90");
        for (int had = 82; had <= 90; had++) {
            for (int more = 0; more <= 8; more++) {
                NobodyChecks x = paged(Edge.many("1", "", had));
                long w = Due.packed(Edge.many("2", "", more), 0);
                if (had + more <= 90) {
                    Edge.due(more + " letters behind " + had, x.letters(w), had + more);
                } else {
                    Edge.refused(x, more + " letters behind " + had, y -> y.letters(w), FULL);
                }
            }
        }
        NobodyChecks x = paged(Edge.many("1", "", 90));
        Edge.refused(x, "a wrong letter behind 90", y -> y.letters(127), OUTSIDE);
        Edge.refused(x, "a 0 ahead of a letter behind 90", y -> y.letters(256), OUTSIDE);
    }

    private static void emptyPage() {
        Edge.says("THE PAGE is empty: how many letters it had.");
        NobodyChecks x = new NobodyChecks();
        Edge.due("blank of none", x.blank(), 0);
        x.letters('1');
        Edge.due("blank of one", x.blank(), 1);
        Edge.due("empty", x.count(4), 0);
        Due.write(x, Edge.many("1", "", 90));
        Edge.due("blank of 90", x.blank(), 90);
        Edge.due("blank again", x.blank(), 0);
        Edge.due("90 letters again", Due.write(x, Edge.many("2", "", 90)), 90);
        NobodyChecks asked = Due.asked("1:5,6");
        Edge.due("blank with a QUESTION", asked.blank(), 0);
        Edge.due("THE QUESTION stays", asked.count(0), 1);
    }

    private static void firstFault() {
        Edge.says("The place (from 0) of the first letter of THE PAGE that no QUESTION has there");
        String text = "12:100,0,45;9:7,80,100";
        for (int place = 0; place < text.length(); place++) {
            String changed = text.substring(0, place) + "x" + text.substring(place + 1);
            isNone(changed, place);
            // What comes behind the first fault does not matter.
            isNone(text.substring(0, place) + "x", place);
            isNone(text.substring(0, place) + "xx:;", place);
        }
    }

    private static void noFault() {
        Edge.says("how many letters it has, if there is none");
        String text = "12:100,0,45,1;9:7,80,100,2";
        for (int size = 0; size <= text.length(); size++) {
            NobodyChecks x = paged(text.substring(0, size));
            Edge.due("fault of " + text.substring(0, size), x.fault(), size);
            Edge.due("THE PAGE stays", x.count(4), size);
        }
    }

    private static void ofAnyLength() {
        Edge.says("no QUESTION (of any length, but CASES and PERSONS no more than told)");
        // The longest QUESTION has 94 letters: its first 90 have no fault, and are none.
        String longest = Edge.many("99:100,100,100,100", ";", 5);
        Edge.due("the longest", longest.length(), 94);
        isNone(longest.substring(0, 90), 90);
        isNone(longest.substring(0, 89), 89);
        isNone(longest.substring(0, 89) + ";", 89);
        // The longest that THE PAGE takes.
        String most = Edge.many("9:100,100,100,100", ";", 4) + ";99:100,100,100,100";
        Edge.due("one of 90 letters", most.length(), 90);
        isQuestion(most, 5, 4);
        isQuestion("1:0,0", 1, 2);
    }

    private static void pageIsRead() {
        Edge.says("how many PERSONS; THE PAGE is empty then");
        NobodyChecks x = isQuestion("1:0,0", 1, 2);
        Edge.refused(x, "question of the empty page", NobodyChecks::question, STATE);
        Edge.due("THE QUESTION stays", x.count(1), 2);
    }

    private static void anotherIsGone() {
        Edge.says("another one is gone, with all COSTS and ROWS");
        NobodyChecks x = Due.asked("9:1,2,3,4;8:5,6,7,8");
        Edge.withCost(x, 999);
        x.pay(1, 9, 0, 0, 0);
        for (int row = 0; row < 24; row++) {
            x.row(80, 104060400L);
        }
        x.leastTable(4);
        Due.write(x, "7:10,20");
        Edge.due("question", x.question(), 2);
        Edge.due("CASES", x.count(0), 1);
        Edge.refused(x, "the second CASE", y -> y.chance(1, NONE), UNKNOWN);
        Edge.refused(x, "the third PERSON", y -> y.chance(0, 2), UNKNOWN);
        Edge.due("ROWS", x.count(3), 0);
        Edge.refused(x, "the first ROW", y -> y.crowd(0, 0), UNKNOWN);
        Edge.due("PAYS stay", x.count(2), 1);
        Edge.due("what was done stays", x.count(5), 1);
        Due.write(x, "9:1,2,3,4");
        Edge.due("four again", x.question(), 4);
        for (int person = 0; person < 4; person++) {
            Edge.due("COST of " + person, x.cost(person, 0), 0);
        }
        Edge.due("the first ROW", x.row(0, NONE), 1);
    }

    /** An object of eight PAYS that has been used with each of the texts as THE QUESTION, one after another. */
    private static NobodyChecks usedWith(String... texts) {
        NobodyChecks x = new NobodyChecks();
        for (int pay = 0; pay < 8; pay++) {
            x.pay(pay % 5, 9 - pay, 70 + pay, 8 - pay, 90 + pay);
        }
        for (String text : texts) {
            Due.write(x, text);
            Edge.due("question", x.question(), text.split(";")[0].split(",").length);
            all(x);
            Edge.withCost(x, 3);
            x.row(4, 5);
            all(x);
        }
        return x;
    }

    /** What is reckoned of THE QUESTION under all PAYS. */
    private static List<Long> all(NobodyChecks x) {
        List<Long> told = new ArrayList<>();
        int persons = x.count(1);
        for (int pay = 0; pay < 8; pay++) {
            for (int person = 0; person < persons; person++) {
                told.add(x.worth(pay, 0, person, 0));
                told.add(x.worth(pay, 14, person, 1));
            }
            told.add((long) x.all(pay, 1));
            told.add((long) x.mayBe(pay, 7));
        }
        for (int i = 0; i < persons; i++) {
            for (int sign = 0; sign <= 1; sign++) {
                told.add(x.thinks(i, sign, (i + 1) % persons, 0));
                told.add(x.thinks(i, sign, (i + 1) % persons, 1));
            }
        }
        told.add((long) x.leastSame());
        told.add((long) x.leastLook(4));
        told.add(x.digest());
        return told;
    }

    private static void asIfTheFirst() {
        Edge.says("THE PAGE is read as THE QUESTION (another one is gone ..)");
        String most = Edge.many("9:91,82,73,64", ";", 3) + ";99:1,2,3,4;98:5,6,7,8";
        String[] texts = {most, "2:80,70,60;1:10,20,30", "1:90,85", "7:1,99;3:50,40;2:30,30"};
        for (String first : texts) {
            for (String second : texts) {
                NobodyChecks again = usedWith(first, second), once = usedWith(second);
                Edge.due(second + " behind " + first, all(again).equals(all(once)) ? 1 : 0, 1);
            }
        }
        // Of five CASES each counts.
        NobodyChecks five = Due.asked("1:10,0;2:10,0;3:10,0;4:10,0;5:10,100");
        Edge.due("5 of 15", five.thinks(0, 1, 1, 0), 1);
        Edge.due("5 of 15", five.thinks(0, 0, 1, 1), 3);
    }

    private static void pageIsNone() {
        Edge.says("STATE: it is none.");
        String[] texts = {"", "1", "1:", "1:5", "1:5,", "1:5,6;", "1:5,6;7", "1:5,6;7:", "1:5,6;7:8", "1:5,6;7:8,", "1:5,6x"};
        for (String text : texts) {
            NobodyChecks x = Due.asked("3:4,5,6;7:8,9,10");
            Edge.withCost(x, 7);
            x.row(5, NONE);
            Due.write(x, text);
            Edge.refused(x, "question of " + text, NobodyChecks::question, STATE);
        }
    }

    private static void caseOrPersonUnknown() {
        Edge.says("Of a CASE: its WEIGHT (person NONE), or the CHANCE of a PERSON. UNKNOWN.");
        for (int cases = 1; cases <= 5; cases++) {
            for (int persons = 2; persons <= 4; persons++) {
                int c = cases, n = persons;
                NobodyChecks x = Due.asked(Edge.many(Edge.oneCase(3, 4, n), ";", c));
                Edge.due("the last WEIGHT", x.chance(c - 1, NONE), 3);
                Edge.due("the last CHANCE", x.chance(c - 1, n - 1), 4);
                Edge.refused(x, "a CASE more", y -> y.chance(c, NONE), UNKNOWN);
                Edge.refused(x, "a CASE more", y -> y.chance(c, 0), UNKNOWN);
                Edge.refused(x, "a CASE less", y -> y.chance(-1, NONE), UNKNOWN);
                Edge.refused(x, "a CASE less", y -> y.chance(-1, 0), UNKNOWN);
                Edge.refused(x, "a PERSON more", y -> y.chance(0, n), UNKNOWN);
                Edge.refused(x, "less than NONE", y -> y.chance(0, -2), UNKNOWN);
            }
        }
    }

    private static void costs() {
        Edge.says("COST (0 to 999; 0 at first) .. COST of a PERSON becomes v: what it was. UNKNOWN; OUTSIDE.");
        for (int persons = 2; persons <= 4; persons++) {
            int n = persons;
            NobodyChecks x = Due.asked(Edge.oneCase(3, 4, n));
            for (int person = 0; person < n; person++) {
                int p = person;
                Edge.due("at first", x.cost(p, 999), 0);
                Edge.refused(x, "1000", y -> y.cost(p, 1000), OUTSIDE);
                Edge.refused(x, "-1", y -> y.cost(p, -1), OUTSIDE);
                Edge.due("what it was", x.cost(p, 0), 999);
                Edge.due("what it was", x.cost(p, 1 + p), 0);
            }
            for (int person = 0; person < n; person++) {
                Edge.due("each has its own", x.cost(person, 0), 1 + person);
            }
            Edge.refused(x, "a PERSON more", y -> y.cost(n, 0), UNKNOWN);
            Edge.refused(x, "a PERSON less", y -> y.cost(-1, 0), UNKNOWN);
            Edge.refused(x, "both", y -> y.cost(n, 1000), UNKNOWN);
        }
    }

    private static void neverSees() {
        Edge.says("the chance that PERSON j saw SIGN 1, if PERSON i saw a SIGN (none, if i never sees that)");
        NobodyChecks always = Due.asked("1:100,30;9:100,60");
        NobodyChecks never = Due.asked("1:0,30;9:0,60");
        for (int part = 0; part <= 1; part++) {
            Edge.due("always 1, saw 0", always.thinks(0, 0, 1, part), NONE);
            Edge.due("never 1, saw 1", never.thinks(0, 1, 1, part), NONE);
        }
        // 30 hundredths in one of ten, 60 in nine of ten: 57 hundredths.
        Edge.due("always 1, saw 1", always.thinks(0, 1, 1, 0), 57);
        Edge.due("always 1, saw 1", always.thinks(0, 1, 1, 1), 100);
        Edge.due("never 1, saw 0", never.thinks(0, 0, 1, 0), 57);
        // One hundredth in the CASE of least WEIGHT is not never.
        NobodyChecks hardly = Due.asked("1:99,30;99:100,60");
        Edge.due("hardly ever 0, saw 0", hardly.thinks(0, 0, 1, 0), 3);
        Edge.due("hardly ever 0, saw 0", hardly.thinks(0, 0, 1, 1), 10);
        hardly = Due.asked("1:1,30;99:0,60");
        Edge.due("hardly ever 1, saw 1", hardly.thinks(0, 1, 1, 0), 3);
        Edge.due("hardly ever 1, saw 1", hardly.thinks(0, 1, 1, 1), 10);
        Edge.says("Fractions are in lowest terms, below 1 at least.");
        NobodyChecks sure = Due.asked("5:100,100,0;5:100,100,0");
        Edge.due("surely", sure.thinks(0, 1, 1, 0), 1);
        Edge.due("surely: 1 of 1", sure.thinks(0, 1, 1, 1), 1);
        Edge.due("surely not", sure.thinks(0, 1, 2, 0), 0);
        Edge.due("surely not: 0 of 1", sure.thinks(0, 1, 2, 1), 1);
    }

    private static void thinksRefused() {
        Edge.says("UNKNOWN: i, j, or they are the same; OUTSIDE: sign, part.");
        for (int persons = 2; persons <= 4; persons++) {
            int n = persons;
            NobodyChecks x = Due.asked(Edge.oneCase(3, 4, n));
            Edge.due("the last and the first", x.thinks(n - 1, 1, 0, 0), 1);
            Edge.due("the first and the last", x.thinks(0, 0, n - 1, 1), 25);
            Edge.refused(x, "i more", y -> y.thinks(n, 0, 0, 0), UNKNOWN);
            Edge.refused(x, "i less", y -> y.thinks(-1, 0, 0, 0), UNKNOWN);
            Edge.refused(x, "j more", y -> y.thinks(0, 0, n, 0), UNKNOWN);
            Edge.refused(x, "j less", y -> y.thinks(0, 0, -1, 0), UNKNOWN);
            for (int person = 0; person < n; person++) {
                int p = person;
                Edge.refused(x, "the same", y -> y.thinks(p, 0, p, 0), UNKNOWN);
            }
            Edge.refused(x, "sign 2", y -> y.thinks(0, 2, 1, 0), OUTSIDE);
            Edge.refused(x, "sign -1", y -> y.thinks(0, -1, 1, 0), OUTSIDE);
            Edge.refused(x, "part 2", y -> y.thinks(0, 1, 1, 2), OUTSIDE);
            Edge.refused(x, "part -1", y -> y.thinks(0, 1, 1, -1), OUTSIDE);
        }
        NobodyChecks always = Due.asked("1:100,30");
        Edge.refused(always, "part 2 of none", y -> y.thinks(0, 0, 1, 2), OUTSIDE);
        Edge.refused(always, "the same of none", y -> y.thinks(0, 0, 0, 0), UNKNOWN);
    }
}
