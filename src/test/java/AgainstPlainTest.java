/** Runs of calls, ordinary and wrong ones, on the class and on the plain reckoning: both answer the same. */
public final class AgainstPlainTest {
    private static final int[] EDGES = {-1, -2, 999, 1000, 100, 101, Integer.MIN_VALUE, Integer.MAX_VALUE};

    private final NobodyChecks x = new NobodyChecks();
    private final Plain plain = new Plain();
    private final int run;
    private long seed;

    private AgainstPlainTest(int run) {
        this.run = run;
        seed = 1234567 + 7919L * run;
    }

    public static void main(String[] args) {
        int runs = args.length > 0 ? Integer.parseInt(args[0]) : 60;
        for (int run = 0; run < runs; run++) {
            new AgainstPlainTest(run).go();
        }
        for (int run = 0; run < runs; run++) {
            new AgainstPlainTest(100000 + run).goFaults();
        }
        Due.end();
    }

    private int draw(int limit) {
        seed = seed * 6364136223846793005L + 1442695040888963407L;
        return (int) ((seed >>> 33) % limit);
    }

    /** Mostly below the limit, now and then just beyond it or far off. */
    private int draw(int limit, int wrongInHundred) {
        if (draw(100) >= wrongInHundred) {
            return draw(limit);
        }
        return draw(2) == 0 ? limit : EDGES[draw(EDGES.length)];
    }

    private void due(String call, long got, long want) {
        Due.due("run " + run + ": " + call, got, want);
    }

    private void go() {
        int persons = 2 + (run % 4 == 3 ? 2 : run % 2);
        // Now and then the first calls find no question.
        if (run % 7 != 6) {
            tell(text(persons));
            question();
        }
        int payLimit = 1 + draw(persons == 4 ? 4 : 8);
        for (int k = 0; k < payLimit; k++) {
            pay(run % 5);
        }
        int calls = persons == 4 ? 30 : 150;
        for (int k = 0; k < calls; k++) {
            call(draw(24));
        }
        due("digest()", x.digest(), plain.digest());
    }

    private String chance() {
        int[] likely = {0, 100, 50, 10, 90, 99};
        return Integer.toString(draw(3) == 0 ? likely[draw(likely.length)] : draw(101));
    }

    private String text(int persons) {
        int cases = 1 + draw(persons == 4 ? 4 : 5);
        StringBuilder text = new StringBuilder();
        for (int c = 0; c < cases; c++) {
            text.append(c == 0 ? "" : ";").append(1 + draw(draw(2) == 0 ? 9 : 99)).append(':');
            for (int p = 0; p < persons; p++) {
                text.append(p == 0 ? "" : ",").append(chance());
            }
        }
        return text.toString();
    }

    private void tell(String text) {
        for (int from = 0; from < text.length(); from += 8) {
            long w = Due.packed(text, from);
            due("letters(" + w + ")", x.letters(w), plain.letters(w));
        }
        due("fault() of " + text, x.fault(), plain.fault());
    }

    private void question() {
        due("question()", x.question(), plain.question());
    }

    private void pay(int wrongInHundred) {
        int kind = draw(5, wrongInHundred);
        int size = draw(3) == 0 ? 1000 : 40;
        int q0 = draw(size, wrongInHundred), q2 = draw(size, wrongInHundred);
        int share = kind == 4 ? 101 : size;
        int q1 = draw(share, wrongInHundred), q3 = draw(share, wrongInHundred);
        due("pay(" + kind + ", " + q0 + ", " + q1 + ", " + q2 + ", " + q3 + ")",
            x.pay(kind, q0, q1, q2, q3), plain.pay(kind, q0, q1, q2, q3));
    }

    private void call(int which) {
        int wrong = 4;
        int persons = Math.max(1, x.count(1)), pays = Math.max(1, x.count(2));
        int pay = draw(pays, wrong), person = draw(persons, wrong), other = draw(persons, wrong);
        int profile = draw(1 << 2 * persons, wrong), part = draw(2, wrong), what = draw(3, wrong);
        switch (which) {
            case 0:
                int v = draw(draw(2) == 0 ? 10 : 1000, wrong);
                due("cost(" + person + ", " + v + ")", x.cost(person, v), plain.cost(person, v));
                break;
            case 1:
                int c = draw(Math.max(1, x.count(0)), wrong), seen = draw(4) == 0 ? -1 : person;
                due("chance(" + c + ", " + seen + ")", x.chance(c, seen), plain.chance(c, seen));
                break;
            case 2:
                due("thinks(" + person + ", " + part + ", " + other + ", 0)",
                    x.thinks(person, part, other, 0), plain.thinks(person, part, other, 0));
                due("thinks(" + person + ", 1, " + other + ", " + part + ")",
                    x.thinks(person, 1, other, part), plain.thinks(person, 1, other, part));
                break;
            case 3:
                pay(wrong);
                break;
            case 4:
                int kind = draw(5, wrong);
                due("as(" + pay + ", " + kind + ")", x.as(pay, kind), plain.as(pay, kind));
                due("about(" + pay + ", " + kind + ")", x.about(pay, kind), plain.about(pay, kind));
                break;
            case 5:
                int answers = draw(1 << persons, wrong);
                due("gets(" + pay + ", " + person + ", " + answers + ")",
                    x.gets(pay, person, answers), plain.gets(pay, person, answers));
                break;
            case 6:
            case 7:
                due("worth(" + pay + ", " + profile + ", " + person + ", " + part + ")",
                    x.worth(pay, profile, person, part), plain.worth(pay, profile, person, part));
                break;
            case 8:
                int at = draw(2) == 0 ? 0 : profile;
                due("rests(" + pay + ", " + at + ", " + what + ")", x.rests(pay, at, what), plain.rests(pay, at, what));
                break;
            case 9:
                due("gain(" + pay + ", " + profile + ", " + person + ", " + part + ")",
                    x.gain(pay, profile, person, part), plain.gain(pay, profile, person, part));
                break;
            default:
                callMore(which, pay, profile, what);
        }
    }

    private void callMore(int which, int pay, int profile, int what) {
        int wrong = 4;
        switch (which) {
            case 10:
                int asked = draw(2) == 0 ? draw(2, wrong) : 10 + draw(4, wrong);
                due("all(" + pay + ", " + asked + ")", x.all(pay, asked), plain.all(pay, asked));
                break;
            case 11:
                int part = draw(2, wrong), at = draw(2) == 0 ? 0 : profile;
                due("group(" + pay + ", " + at + ", " + part + ")", x.group(pay, at, part), plain.group(pay, at, part));
                break;
            case 12:
                due("goes(" + pay + ", " + profile + ", " + what + ")",
                    x.goes(pay, profile, what), plain.goes(pay, profile, what));
                break;
            case 13:
                if (x.count(1) < 4) {
                    due("drawn(" + pay + ")", x.drawn(pay), plain.drawn(pay));
                }
                break;
            case 14:
                if (x.count(1) < 4) {
                    due("leastSame()", x.leastSame(), plain.leastSame());
                }
                break;
            case 15:
                int number = draw(5, wrong);
                if (x.count(1) < 3 && draw(4) == 0) {
                    due("leastTable(" + number + ")", x.leastTable(number), plain.leastTable(number));
                }
                break;
            case 16:
                due("leastLook(" + pay + ")", x.leastLook(pay), plain.leastLook(pay));
                break;
            case 17:
                int e = draw(draw(2) == 0 ? 10 : 101, wrong);
                due("mayBe(" + pay + ", " + e + ")", x.mayBe(pay, e), plain.mayBe(pay, e));
                break;
            case 18:
            case 19:
                row(wrong);
                break;
            default:
                callLast(which);
        }
    }

    private void row(int wrong) {
        int persons = Math.max(1, x.count(1));
        int answers = draw((int) Math.pow(3, persons), wrong);
        long guesses = draw(3) == 0 ? -1 : draw((int) Math.pow(101, persons), wrong);
        due("row(" + answers + ", " + guesses + ")", x.row(answers, guesses), plain.row(answers, guesses));
    }

    private void callLast(int which) {
        int wrong = 4, persons = Math.max(1, x.count(1));
        switch (which) {
            case 20:
                int i = draw(persons, wrong), j = draw(persons, wrong), part = draw(4, wrong);
                due("alike(" + i + ", " + j + ", " + part + ")", x.alike(i, j, part), plain.alike(i, j, part));
                break;
            case 21:
                int row = draw(Math.max(1, x.count(3)), wrong), what = draw(2, wrong);
                due("crowd(" + row + ", " + what + ")", x.crowd(row, what), plain.crowd(row, what));
                break;
            case 22:
                int counted = draw(6, wrong);
                due("count(" + counted + ")", x.count(counted), plain.count(counted));
                break;
            default:
                if (draw(3) == 0) {
                    due("blank()", x.blank(), plain.blank());
                    tell(text(2 + draw(2)));
                    question();
                } else {
                    long w = draw(2) == 0 ? draw(128) : (long) draw(1 << 30) << 33 | draw(1 << 30);
                    due("letters(" + w + ")", x.letters(w), plain.letters(w));
                    due("fault()", x.fault(), plain.fault());
                }
        }
    }

    /** A text with a letter changed, left out or put in somewhere. */
    private void goFaults() {
        String letters = "0123456789,;:0011,,;;:: x/";
        for (int k = 0; k < 8; k++) {
            StringBuilder text = new StringBuilder(text(2 + draw(3)));
            for (int change = draw(3); change >= 0; change--) {
                int place = draw(text.length());
                int how = draw(3);
                if (how != 2) {
                    text.deleteCharAt(place);
                }
                if (how != 1 || text.length() == 0) {
                    text.insert(place, letters.charAt(draw(letters.length())));
                }
            }
            due("blank()", x.blank(), plain.blank());
            tell(text.toString());
            question();
            due("digest()", x.digest(), plain.digest());
        }
    }
}
