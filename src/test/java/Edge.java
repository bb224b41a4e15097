import java.util.ArrayList;
import java.util.List;

/**
 * For the tests of boundary cases: the sentence of the document that is held, texts of questions,
 * and whether a refused call has left all as it was.
 */
final class Edge {
    /** A call on an object. */
    interface Call {
        long on(NobodyChecks x);
    }

    private static String sentence = "";

    private Edge() {
    }

    /** Every answer from here on is held for this sentence of the document. */
    static void says(String quoted) {
        sentence = quoted;
    }

    static void due(String call, long got, long want) {
        Due.due("[" + sentence + "] " + call, got, want);
    }

    /** The call is refused so, and nothing has changed. */
    static void refused(NobodyChecks x, String call, Call does, long want) {
        List<Long> before = portrait(x);
        due(call, does.on(x), want);
        due(call + ", refused, changes nothing", portrait(x).equals(before) ? 1 : 0, 1);
    }

    /** All that calls tell which change nothing; digest() tells the COSTS and THE PAGE. */
    static List<Long> portrait(NobodyChecks x) {
        List<Long> told = new ArrayList<>();
        told.add(x.digest());
        told.add((long) x.fault());
        for (int what = 0; what <= 5; what++) {
            told.add((long) x.count(what));
        }
        for (int c = 0; c < x.count(0); c++) {
            for (int person = NobodyChecks.NONE; person < x.count(1); person++) {
                told.add((long) x.chance(c, person));
            }
        }
        for (int pay = 0; pay < x.count(2); pay++) {
            for (int what = 0; what <= 4; what++) {
                told.add((long) x.about(pay, what));
            }
        }
        for (int row = 0; row < x.count(3); row++) {
            told.add((long) x.crowd(row, 0));
            told.add((long) x.crowd(row, 1));
        }
        told.add(x.digest());
        return told;
    }

    /** A text again and again, with another one between. */
    static String many(String one, String between, int times) {
        StringBuilder text = new StringBuilder();
        for (int k = 0; k < times; k++) {
            text.append(k == 0 ? "" : between).append(one);
        }
        return text.toString();
    }

    /** A CASE of so many PERSONS, all with one CHANCE. */
    static String oneCase(int weight, int chance, int persons) {
        return weight + ":" + many("" + chance, ",", persons);
    }

    /** A QUESTION of two CASES where all PERSONS see what is so. */
    static NobodyChecks allSee(int weightOfOne, int weightOfZero, int persons) {
        return Due.asked(oneCase(weightOfOne, 100, persons) + ";" + oneCase(weightOfZero, 0, persons));
    }

    static NobodyChecks withCost(NobodyChecks x, int cost) {
        for (int person = 0; person < x.count(1); person++) {
            x.cost(person, cost);
        }
        return x;
    }

    /** A number by its figures, the lowest first. */
    static long figures(int base, int... lowestFirst) {
        long sum = 0;
        for (int k = lowestFirst.length - 1; k >= 0; k--) {
            sum = base * sum + lowestFirst[k];
        }
        return sum;
    }

    static int power(int base, int times) {
        int product = 1;
        for (int k = 0; k < times; k++) {
            product *= base;
        }
        return product;
    }
}
