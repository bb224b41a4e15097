import java.lang.management.ManagementFactory;

/** All calls of one run live in one room: what 512 dear calls make is small, whatever they are. */
public final class RoomTest {
    /** A tenth of 7.3 million elements, were each of them a long. */
    private static final long MOST_BYTES = 8L * 730_000;

    public static void main(String[] args) {
        String[] names = {"all", "goes", "drawn", "group", "mayBe", "leastSame", "leastTable", "leastLook", "digest",
            "question", "worth", "letters"};
        for (int which = 0; which < names.length; which++) {
            run(which);
            long made = run(which);
            Due.due(names[which] + " makes too much: " + made, made < MOST_BYTES ? 1 : 0, 1);
        }
        Due.end();
    }

    private static long bytes() {
        return ((com.sun.management.ThreadMXBean) ManagementFactory.getThreadMXBean())
            .getThreadAllocatedBytes(Thread.currentThread().getId());
    }

    private static long run(int which) {
        String text = "99:99,1,50,3;98:7,12,60,4";
        long[] words = new long[4];
        for (int k = 0; k < 4; k++) {
            words[k] = Due.packed(text, 8 * k);
        }
        long before = bytes();
        NobodyChecks x = new NobodyChecks();
        for (int k = 0; k < 4; k++) {
            x.letters(words[k]);
        }
        x.question();
        for (int k = 0; k < 8; k++) {
            x.pay(k == 7 ? 4 : k % 5, 9, 8, 7, 6);
        }
        for (int k = 0; k < 499; k++) {
            call(x, which, k, words);
        }
        return bytes() - before;
    }

    private static void call(NobodyChecks x, int which, int k, long[] words) {
        switch (which) {
            case 0: x.all(k % 8, 0); break;
            case 1: x.goes(k % 8, k % 256, 0); break;
            case 2: x.drawn(k % 8); break;
            case 3: x.group(k % 8, k % 256, 1); break;
            case 4: x.mayBe(k % 8, k % 101); break;
            case 5: x.leastSame(); break;
            case 6: x.leastTable(0); break;
            case 7: x.leastLook(7); break;
            case 8: x.digest(); break;
            case 9:
                for (long word : words) {
                    x.letters(word);
                }
                x.question();
                x.all(k % 8, 0);
                break;
            case 10: x.worth(k % 8, k % 256, k % 4, 0); break;
            default: x.letters(words[0]); x.fault(); x.blank(); break;
        }
    }
}
