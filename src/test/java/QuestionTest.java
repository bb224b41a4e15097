/** Promises 1 to 8: a new object, letters, blank, fault, question, chance, cost, thinks. */
public final class QuestionTest {
    private static final int NONE = NobodyChecks.NONE, UNKNOWN = NobodyChecks.UNKNOWN,
        OUTSIDE = NobodyChecks.OUTSIDE, STATE = NobodyChecks.STATE, FULL = NobodyChecks.FULL;

    public static void main(String[] args) {
        newObject();
        letters();
        blank();
        fault();
        question();
        questionAgain();
        chance();
        cost();
        thinks();
        Due.end();
    }

    private static void newObject() {
        NobodyChecks x = new NobodyChecks();
        for (int what = 0; what <= 5; what++) {
            Due.due("new: count(" + what + ")", x.count(what), 0);
        }
        Due.due("new: chance", x.chance(0, NONE), UNKNOWN);
        Due.due("new: chance of a person", x.chance(0, 0), UNKNOWN);
        Due.due("new: cost", x.cost(0, 0), UNKNOWN);
        Due.due("new: thinks", x.thinks(0, 1, 1, 0), UNKNOWN);
        Due.due("new: as", x.as(0, 0), UNKNOWN);
        Due.due("new: about", x.about(0, 0), UNKNOWN);
        Due.due("new: gets", x.gets(0, 0, 0), UNKNOWN);
        Due.due("new: crowd", x.crowd(0, 0), UNKNOWN);
        Due.due("new: alike", x.alike(0, 1, 0), -1000001);
        Due.due("new: fault", x.fault(), 0);
        Due.due("new: question", x.question(), STATE);
        Due.due("new: blank", x.blank(), 0);
    }

    private static void letters() {
        NobodyChecks x = new NobodyChecks();
        Due.due("letters of none", x.letters(0), 0);
        Due.due("letters of one", x.letters('5'), 1);
        Due.due("letters of eight", x.letters(Due.packed("abcdefgh", 0)), 9);
        Due.due("code 126", x.letters(126), 10);
        Due.due("code 1", x.letters(1), 11);
        Due.due("code 127", x.letters(127), OUTSIDE);
        Due.due("code 128", x.letters(128), OUTSIDE);
        Due.due("code 255 in the highest byte", x.letters(-1L << 56 | 0x01010101010101L), OUTSIDE);
        Due.due("code 127 in the highest byte", x.letters(127L << 56 | 0x01010101010101L), OUTSIDE);
        Due.due("0 ahead of a letter", x.letters('5' << 8), OUTSIDE);
        Due.due("0 between letters", x.letters('5' | '5' << 16), OUTSIDE);
        Due.due("0 ahead of the highest byte", x.letters(1L << 56), OUTSIDE);
        Due.due("refusals change nothing", x.count(4), 11);
        for (int size = 19; size <= 83; size += 8) {
            Due.due("letters up to " + size, x.letters(Due.packed("12345678", 0)), size);
        }
        Due.due("91 letters", x.letters(Due.packed("12345678", 0)), FULL);
        Due.due("90 letters", x.letters(Due.packed("1234567", 0)), 90);
        Due.due("no letters behind 90", x.letters(0), 90);
        Due.due("one letter behind 90", x.letters('1'), FULL);
        Due.due("OUTSIDE ahead of FULL", x.letters(127), OUTSIDE);
        Due.due("90 letters stay", x.count(4), 90);
    }

    private static void blank() {
        NobodyChecks x = new NobodyChecks();
        Due.write(x, "12:0,100");
        Due.due("blank", x.blank(), 8);
        Due.due("blank again", x.blank(), 0);
        Due.due("no letters left", x.count(4), 0);
        Due.due("blank: question", x.question(), STATE);
    }

    private static void faultOf(String text, int place) {
        NobodyChecks x = new NobodyChecks();
        Due.write(x, text);
        Due.due("fault of " + text, x.fault(), place);
        Due.due("fault of " + text + " changes nothing", x.count(4), text.length());
    }

    private static void fault() {
        String[] noFault = {
            "", "1", "12", "99", "1:", "12:1", "1:0", "1:0,", "1:10,2", "1:100,100", "1:1,2;", "1:1,2;3:4,5",
            "1:1,2,3,4;1:1,2,3,4;1:1,2,3,4;1:1,2,3,4;1:1,2,3,4", "1:1,2;3:4", "05:1,2", "0"};
        for (String text : noFault) {
            faultOf(text, text.length());
        }
        faultOf("x", 0);
        faultOf(":", 0);
        faultOf(",", 0);
        faultOf(";", 0);
        faultOf(" 1:1,2", 0);
        faultOf("0:1,2", 1);
        faultOf("00:1,2", 1);
        faultOf("100:1,2", 2);
        faultOf("1,2", 1);
        faultOf("1;2", 1);
        faultOf("1::", 2);
        faultOf("1:,", 2);
        faultOf("1:;", 2);
        faultOf("1:00,1", 3);
        faultOf("1:01,1", 3);
        faultOf("1:101,1", 4);
        faultOf("1:110,1", 4);
        faultOf("1:1000", 5);
        faultOf("1:5;", 3);
        faultOf("1:5:", 3);
        faultOf("1:5,;", 4);
        faultOf("1:5,6:", 5);
        faultOf("1:1,2,3,4,", 9);
        faultOf("1:1,2;;", 6);
        faultOf("1:1,2;0:", 7);
        faultOf("1:1,2;3:4;", 9);
        faultOf("1:1,2;3:4,5,", 11);
        faultOf("1:1,2,3;3:4,5;", 13);
        faultOf("1:1,2;1:1,2;1:1,2;1:1,2;1:1,2;", 29);
        faultOf("1:1,2/", 5);
        faultOf("1:1,2" + (char) 10, 5);
        longText();
    }

    /** A QUESTION may be longer than THE PAGE: 90 letters of one of 94 have no fault. */
    private static void longText() {
        String one = "99:100,100,100,100;";
        NobodyChecks x = new NobodyChecks();
        String text = (one + one + one + one + one).substring(0, 90);
        Due.due("90 letters", Due.write(x, text), 90);
        Due.due("fault of 90 letters", x.fault(), 90);
        Due.due("question of 90 letters", x.question(), STATE);
        NobodyChecks y = new NobodyChecks();
        String whole = one + one + one + one + "9:9,9,9,100";
        Due.due("a question of 87 letters", Due.write(y, whole), 87);
        Due.due("its fault", y.fault(), 87);
        Due.due("its PERSONS", y.question(), 4);
        Due.due("its last CHANCE", y.chance(4, 3), 100);
    }

    private static void question() {
        String[] none = {"", "1", "1:", "1:5", "1:5,", "1:5,6;", "1:5,6;7", "1:5,6;7:8", "1:5,6,7;8:9,10", "0:1,2",
            "1:5,6,7,8,9", "1:5,6x", "x"};
        for (String text : none) {
            NobodyChecks x = new NobodyChecks();
            Due.write(x, text);
            Due.due("question of " + text, x.question(), STATE);
            Due.due("the page stays: " + text, x.count(4), text.length());
            Due.due("no question: " + text, x.count(0), 0);
        }
        NobodyChecks x = new NobodyChecks();
        Due.write(x, "7:80,70,60;3:30,40,0");
        Due.due("question", x.question(), 3);
        Due.due("cases", x.count(0), 2);
        Due.due("persons", x.count(1), 3);
        Due.due("the page is empty then", x.count(4), 0);
        Due.due("question of the empty page", x.question(), STATE);
        Due.due("the question stays", x.count(0), 2);
        Due.due("a weight with a 0 ahead", Due.asked("05:1,2").chance(0, NONE), 5);
    }

    /** Another one is gone with all COSTS and ROWS; PAYS and what was done stay. */
    private static void questionAgain() {
        NobodyChecks x = Due.asked("7:80,70,60;3:30,40,0");
        x.cost(0, 9);
        x.cost(1, 8);
        x.pay(1, 12, 0, 0, 0);
        x.row(5, NONE);
        x.leastTable(0);
        x.worth(0, 0, 0, 0);
        Due.write(x, "1:100,100;1:0,0;");
        Due.due("not yet a question", x.question(), STATE);
        Due.due("rows stay", x.count(3), 1);
        Due.due("costs stay", x.cost(0, 9), 9);
        x.blank();
        Due.write(x, "1:100,100;1:0,0");
        Due.due("another question", x.question(), 2);
        Due.due("rows are gone", x.count(3), 0);
        Due.due("cost of 0 is gone", x.cost(0, 0), 0);
        Due.due("cost of 1 is gone", x.cost(1, 0), 0);
        Due.due("pays stay", x.count(2), 1);
        Due.due("what was done stays", x.count(5), 1);
        Due.due("worth is of the new question", x.worth(0, 0, 0, 0), 12);
        Due.due("person 2 is gone", x.cost(2, 0), UNKNOWN);
    }

    private static void chance() {
        NobodyChecks x = Due.asked("7:80,70,60;99:100,40,0");
        Due.due("weight 0", x.chance(0, NONE), 7);
        Due.due("weight 1", x.chance(1, NONE), 99);
        int[][] want = {{80, 70, 60}, {100, 40, 0}};
        for (int c = 0; c < 2; c++) {
            for (int person = 0; person < 3; person++) {
                Due.due("chance(" + c + ", " + person + ")", x.chance(c, person), want[c][person]);
            }
        }
        int[] wrong = {-2, 3, Integer.MIN_VALUE, Integer.MAX_VALUE};
        for (int person : wrong) {
            Due.due("chance of " + person, x.chance(0, person), UNKNOWN);
        }
        int[] wrongCases = {-1, 2, Integer.MIN_VALUE, Integer.MAX_VALUE};
        for (int c : wrongCases) {
            Due.due("chance in " + c, x.chance(c, NONE), UNKNOWN);
        }
    }

    private static void cost() {
        NobodyChecks x = Due.asked("1:1,2");
        Due.due("at first", x.cost(0, 999), 0);
        Due.due("then", x.cost(0, 0), 999);
        Due.due("then", x.cost(0, 5), 0);
        Due.due("above", x.cost(0, 1000), OUTSIDE);
        Due.due("below", x.cost(0, -1), OUTSIDE);
        Due.due("a refusal changes nothing", x.cost(0, 5), 5);
        Due.due("of the other", x.cost(1, 7), 0);
        Due.due("of nobody", x.cost(2, 7), UNKNOWN);
        Due.due("UNKNOWN ahead of OUTSIDE", x.cost(-1, -1), UNKNOWN);
        Due.due("extremes", x.cost(Integer.MAX_VALUE, Integer.MIN_VALUE), UNKNOWN);
    }

    private static void thinks() {
        NobodyChecks x = Due.asked("3:80,50;1:20,0");
        // i = 0 saw 1: 3 * 80 and 1 * 20 of 260 parts; j saw 1 in 240 * 50 / 100 of them.
        Due.due("thinks above", x.thinks(0, 1, 1, 0), 6);
        Due.due("thinks below", x.thinks(0, 1, 1, 1), 13);
        // i = 0 saw 0: 3 * 20 and 1 * 80; j saw 1 in 60 * 50 / 100.
        Due.due("thinks above", x.thinks(0, 0, 1, 0), 3);
        Due.due("thinks below", x.thinks(0, 0, 1, 1), 14);
        NobodyChecks y = Due.asked("1:100,0;1:100,0");
        Due.due("never sees 0", y.thinks(0, 0, 1, 0), NONE);
        Due.due("never sees 0", y.thinks(0, 0, 1, 1), NONE);
        Due.due("never", y.thinks(0, 1, 1, 0), 0);
        Due.due("0 of 1", y.thinks(0, 1, 1, 1), 1);
        Due.due("surely", y.thinks(1, 0, 0, 0), 1);
        Due.due("1 of 1", y.thinks(1, 0, 0, 1), 1);
        Due.due("the same", x.thinks(1, 0, 1, 0), UNKNOWN);
        Due.due("i", x.thinks(2, 0, 1, 0), UNKNOWN);
        Due.due("j", x.thinks(0, 0, -1, 0), UNKNOWN);
        Due.due("sign", x.thinks(0, 2, 1, 0), OUTSIDE);
        Due.due("sign", x.thinks(0, -1, 1, 0), OUTSIDE);
        Due.due("part", x.thinks(0, 0, 1, 2), OUTSIDE);
        Due.due("part", x.thinks(0, 0, 1, -1), OUTSIDE);
        Due.due("UNKNOWN ahead of OUTSIDE", x.thinks(0, 2, 0, 2), UNKNOWN);
        Due.due("OUTSIDE ahead of NONE", y.thinks(0, 0, 1, 2), OUTSIDE);
    }
}
