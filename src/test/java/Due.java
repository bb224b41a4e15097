/** What every test needs: to hold an answer against the one that is due, and to tell a question. */
final class Due {
    private static int wrong = 0;
    private static int held = 0;

    private Due() {
    }

    static void due(String call, long got, long want) {
        held++;
        if (got != want) {
            wrong++;
            System.out.println(call + " answered " + got + ", due is " + want);
        }
    }

    static int held() {
        return held;
    }

    static void end() {
        System.out.println(held + " answers held, " + wrong + " not as due");
        if (wrong != 0) {
            System.exit(1);
        }
    }

    /** Up to eight letters from a place of a text, as letters() takes them. */
    static long packed(String text, int from) {
        long w = 0;
        for (int k = 0; k < 8 && from + k < text.length(); k++) {
            w |= (long) text.charAt(from + k) << (8 * k);
        }
        return w;
    }

    /** The text comes behind THE PAGE; what the last letters() answered. */
    static int write(NobodyChecks x, String text) {
        int answer = x.letters(0);
        for (int from = 0; from < text.length(); from += 8) {
            answer = x.letters(packed(text, from));
        }
        return answer;
    }

    /** A new object whose QUESTION is the text. */
    static NobodyChecks asked(String text) {
        NobodyChecks x = new NobodyChecks();
        write(x, text);
        int persons = x.question();
        if (persons < 2) {
            due("question() of " + text, persons, 2);
        }
        return x;
    }
}
