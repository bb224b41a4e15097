/** Promises 27 and 28: count, digest. */
public final class ToldTest {
    private static final int NONE = NobodyChecks.NONE, OUTSIDE = NobodyChecks.OUTSIDE;

    public static void main(String[] args) {
        count();
        digestOfNew();
        digestWithoutQuestion();
        digestOfAll();
        Due.end();
    }

    private static void count() {
        NobodyChecks x = Due.asked("1:50,50,50;2:1,2,3");
        x.pay(0, 5, 0, 0, 0);
        x.pay(1, 5, 0, 0, 0);
        x.pay(1, 5, 0, 0, 0);
        x.pay(1, 5, 0, 0, 0);
        for (int k = 0; k < 5; k++) {
            x.row(0, NONE);
        }
        for (int k = 0; k < 7; k++) {
            x.leastTable(0);
        }
        Due.write(x, "123456");
        int[] want = {2, 3, 4, 5, 6, 7};
        for (int what = 0; what < 6; what++) {
            Due.due("count(" + what + ")", x.count(what), want[what]);
        }
        int[] wrong = {-1, 6, Integer.MIN_VALUE, Integer.MAX_VALUE};
        for (int what : wrong) {
            Due.due("count(" + what + ")", x.count(what), OUTSIDE);
        }
    }

    private static long mixed(long... numbers) {
        long h = 347;
        for (long number : numbers) {
            h = 31 * h + number;
        }
        return h;
    }

    private static void digestOfNew() {
        Due.due("digest of a new object", new NobodyChecks().digest(), 307963777307L);
    }

    private static void digestWithoutQuestion() {
        NobodyChecks x = new NobodyChecks();
        x.pay(4, 5, 6, 7, 8);
        Due.write(x, "1:");
        Due.due("digest", x.digest(), mixed(4, 5, 6, 7, 8, '1', ':', 0, 0, 1, 0, 2, 0));
    }

    private static void digestOfAll() {
        NobodyChecks x = Due.asked("1:100,100;2:0,0");
        x.pay(1, 10, 0, 0, 9);
        x.pay(0, 5, 0, 0, 0);
        x.cost(0, 3);
        x.cost(1, 2);
        x.row(5, 101 * 7 + 3);
        x.row(1, NONE);
        x.leastTable(0);
        Due.write(x, "9;");
        // TRUE is WORTH 10 less 3, to answer 0 two thirds of 10: truth rests, as do 5, 10 and 15.
        Due.due("digest", x.digest(), mixed(
            1, 100, 100, 2, 0, 0, 3, 2,
            1, 10, 0, 0, 9, 1, 4, 7, 1,
            0, 5, 0, 0, 0, 0, 4, 2, 1,
            5, 710, 1, 1,
            1, NONE, NONE, NONE,
            '9', ';',
            2, 2, 2, 2, 2, 1));
    }
}
