import java.util.ArrayList;
import java.util.List;

/** The boundary cases of promises 27 and 28, and of an object's 512 calls. */
public final class EdgesOfToldTest {
    private static final int NONE = NobodyChecks.NONE, OUTSIDE = NobodyChecks.OUTSIDE;

    public static void main(String[] args) {
        countOfNothing();
        countOfMost();
        countRefused();
        digestOfNothing();
        digestOfMost();
        digestOfParts();
        digestChangesNothing();
        digestTellsAll();
        last512th();
        Due.end();
    }

    private static void countOfNothing() {
        Edge.says("How many: 0 CASES, 1 PERSONS, 2 PAYS, 3 ROWS, 4 letters of THE PAGE, 5 how often leastTable() was done (none)");
        for (int what = 0; what <= 5; what++) {
            Edge.due("count(" + what + ")", new NobodyChecks().count(what), 0);
        }
    }

    /** As much of all as an object takes. */
    private static NobodyChecks full() {
        NobodyChecks x = Due.asked("9:100,0,1,99;9:98,2,3,97;9:96,4,5,95;9:6,94,7,93;99:8,92,9,91");
        for (int pay = 0; pay < 8; pay++) {
            x.pay(pay % 5, 90 + pay, 80 - pay, 70 + pay, 60 - pay);
        }
        for (int person = 0; person < 4; person++) {
            x.cost(person, person == 3 ? 999 : person);
        }
        for (int row = 0; row < 24; row++) {
            x.row(row == 23 ? 80 : 3 * row, row % 3 == 0 ? NONE : row == 23 ? 104060400 : 4000000L * row);
        }
        for (int done = 0; done < 10; done++) {
            x.leastTable(done % 5);
        }
        Due.write(x, Edge.many("1:5,6;~#", "", 12).substring(0, 90));
        return x;
    }

    private static void countOfMost() {
        Edge.says("How many: 0 CASES, 1 PERSONS, 2 PAYS, 3 ROWS, 4 letters of THE PAGE, 5 how often leastTable() was done (most)");
        NobodyChecks x = full();
        int[] most = {5, 4, 8, 24, 90, 10};
        for (int what = 0; what <= 5; what++) {
            Edge.due("count(" + what + ")", x.count(what), most[what]);
        }
    }

    private static void countRefused() {
        Edge.says("count OUTSIDE.");
        int[] wrong = {-1, 6, Integer.MIN_VALUE, Integer.MAX_VALUE};
        for (int what : wrong) {
            Edge.refused(new NobodyChecks(), "count(" + what + ")", y -> y.count(what), OUTSIDE);
            Edge.due("count(" + what + ") of a full one", full().count(what), OUTSIDE);
        }
    }

    private static long mixed(List<Long> numbers) {
        long h = 347;
        for (long number : numbers) {
            h = 31 * h + number;
        }
        return h;
    }

    private static void digestOfNothing() {
        Edge.says("h is 347, then .. what count() tells for 0 to 5");
        Edge.due("digest of six 0", new NobodyChecks().digest(), 347L * 31 * 31 * 31 * 31 * 31 * 31);
    }

    /** The digest by what the other calls tell; the costs, rows and letters are those of full(). */
    private static long digestOf(NobodyChecks x) {
        List<Long> told = new ArrayList<>();
        for (int c = 0; c < 5; c++) {
            for (int person = NONE; person < 4; person++) {
                told.add((long) x.chance(c, person));
            }
        }
        told.addAll(List.of(0L, 1L, 2L, 999L));
        for (int pay = 0; pay < 8; pay++) {
            told.add((long) x.about(pay, 4));
            for (int what = 0; what < 4; what++) {
                told.add((long) x.about(pay, what));
            }
            told.add((long) x.rests(pay, 0, 0));
            told.add((long) x.all(pay, 0));
            told.add(x.worth(pay, 0, 0, 0));
            told.add(x.worth(pay, 0, 0, 1));
        }
        for (int row = 0; row < 24; row++) {
            told.add(row == 23 ? 80L : 3L * row);
            told.add(row % 3 == 0 ? NONE : row == 23 ? 104060400 : 4000000L * row);
            told.add((long) x.crowd(row, 0));
            told.add((long) x.crowd(row, 1));
        }
        String text = Edge.many("1:5,6;~#", "", 12).substring(0, 90);
        for (int place = 0; place < 90; place++) {
            told.add((long) text.charAt(place));
        }
        for (int what = 0; what <= 5; what++) {
            told.add((long) x.count(what));
        }
        return mixed(told);
    }

    private static void digestOfMost() {
        Edge.says("31 times h, and it (as longs, wrapping)");
        Edge.due("digest of a full one", full().digest(), digestOf(full()));
    }

    private static void digestOfParts() {
        Edge.says("whether truth rests (1, 0), all(.., 0), WORTH of PERSON 0 by truth above, below");
        // 0 looks at a COST of 2, and sees with 1 alike in a half; 1 always sees 1, and 2 always 0.
        NobodyChecks x = Due.asked("1:50,100,0");
        x.pay(2, 0, 0, 1, 2);
        x.pay(1, 0, 0, 0, 0);
        x.cost(0, 2);
        List<Long> told = new ArrayList<>(List.of(1L, 50L, 100L, 0L, 2L, 0L, 0L));
        // To answer 0 gives nothing, 1 gives 1 for each 0 and 2 for each 1: 3 in a half of the times, less 2.
        long answersOne = 0;
        for (int profile = 0; profile < 64; profile++) {
            answersOne += x.rests(0, profile, 0);
        }
        told.addAll(List.of(2L, 0L, 0L, 1L, 2L, 0L, answersOne, -1L, 2L));
        x.cost(0, 0);
        // Without a COST all rest where nothing is paid.
        Edge.due("all rest", x.all(1, 0), 64);
        x.cost(0, 2);
        // Who looks does not rest: 0 has two WAYS, the others have four.
        told.addAll(List.of(1L, 0L, 0L, 0L, 0L, 0L, 32L, -2L, 1L));
        told.addAll(List.of(1L, 3L, 2L, 0L, 0L, 0L));
        Edge.due("digest", x.digest(), mixed(told));
        // 1 and 2 always see what is so, 0 in three of four: 3 for each of them, to 1 for 2 and for 0 in three of four.
        NobodyChecks rests = Due.asked("1:75,100,100;1:25,0,0");
        rests.pay(1, 3, 0, 0, 0);
        long all = rests.all(0, 0);
        Edge.due("of 1 below", rests.worth(0, 0, 1, 1), 4);
        Edge.due("digest", rests.digest(), mixed(List.of(1L, 75L, 100L, 100L, 1L, 25L, 0L, 0L, 0L, 0L, 0L,
            1L, 3L, 0L, 0L, 0L, 1L, all, 9L, 2L, 2L, 3L, 1L, 0L, 0L, 0L)));
    }

    private static void digestChangesNothing() {
        Edge.says("digest");
        NobodyChecks x = full();
        long once = x.digest();
        Edge.due("digest again", x.digest(), once);
        Edge.due("count", x.count(4), 90);
    }

    /** Whatever changes, digest() tells another number: that is how a refused call is seen to change nothing. */
    private static void digestTellsAll() {
        Edge.says("of each CASE its WEIGHT, CHANCES; of each PERSON its COST; of each PAY ..; of each ROW ..; letters of THE PAGE");
        NobodyChecks x = Due.asked("1:50,50");
        long before = x.digest();
        Edge.Call[] changes = {
            y -> y.cost(0, 1), y -> y.cost(1, 1), y -> y.cost(1, 0), y -> y.pay(0, 0, 0, 0, 0), y -> y.pay(1, 0, 0, 0, 1),
            y -> y.row(0, NONE), y -> y.row(0, 0), y -> y.row(8, 1), y -> y.letters('1'), y -> y.letters(':'),
            y -> y.blank(), y -> y.leastTable(0), y -> Due.write(y, "2:50,50"), y -> y.question()};
        for (int k = 0; k < changes.length; k++) {
            changes[k].on(x);
            long after = x.digest();
            Edge.due("digest behind change " + k, after == before ? 1 : 0, 0);
            before = after;
        }
    }

    private static void last512th() {
        Edge.says("An object is used for at most 512 calls after it has been made");
        NobodyChecks x = new NobodyChecks();
        int calls = 0;
        while (calls < 500) {
            Edge.due("letters", x.letters(Due.packed("1:5,6", 0)), 5);
            Edge.due("fault", x.fault(), 5);
            Edge.due("question", x.question(), 2);
            Edge.due("cost", x.cost(1, 5), 0);
            Edge.due("row", x.row(0, NONE), 1);
            calls += 5;
        }
        Edge.due("pay", x.pay(1, 10, 0, 0, 0), 0);
        for (calls = 501; calls < 511; calls++) {
            Edge.due("leastTable", x.leastTable(4), 0);
        }
        Edge.due("the 512th call", x.count(5), 10);
        // What later calls answer is free, but they end.
        for (int later = 0; later < 1000; later++) {
            x.letters(Due.packed("1:5,6", 0));
            x.question();
            x.pay(1, 10, 0, 0, 0);
            x.row(0, NONE);
            x.digest();
        }
    }
}
