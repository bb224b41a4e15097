import java.math.BigInteger;
import java.util.ArrayList;
import java.util.List;
import java.util.regex.Matcher;
import java.util.regex.Pattern;

/**
 * The document once more, reckoned as plainly as can be: every CASE, all SIGNS, every look of the
 * house one by one, with fractions of any size. Slow; it is there to be held against the class.
 */
final class Plain {
    static final int NONE = -1, UNKNOWN = -101, OUTSIDE = -102, STATE = -103, FULL = -104;

    /** A fraction of whole numbers of any size. */
    record Part(BigInteger above, BigInteger below) {
        static Part of(long above, long below) {
            return of(BigInteger.valueOf(above), BigInteger.valueOf(below));
        }

        static Part of(BigInteger above, BigInteger below) {
            BigInteger g = above.gcd(below);
            return new Part(above.divide(g), below.divide(g));
        }

        Part plus(Part o) {
            return of(above.multiply(o.below).add(o.above.multiply(below)), below.multiply(o.below));
        }

        Part less(Part o) {
            return plus(new Part(o.above.negate(), o.below));
        }

        boolean isMoreThan(Part o) {
            return above.multiply(o.below).compareTo(o.above.multiply(below)) > 0;
        }

        long part(int which) {
            return (which == 0 ? above : below).longValueExact();
        }
    }

    private final StringBuilder page = new StringBuilder();
    private List<int[]> cases = new ArrayList<>();
    private int persons = 0;
    private final int[] costs = new int[4];
    private final List<int[]> pays = new ArrayList<>();
    private final List<int[]> rowAnswers = new ArrayList<>();
    private final List<int[]> rowGuesses = new ArrayList<>();
    private final List<long[]> rowTold = new ArrayList<>();
    private int tablesDone = 0;

    // ---- the question

    int letters(long w) {
        StringBuilder more = new StringBuilder();
        byte[] bytes = new byte[8];
        for (int k = 0; k < 8; k++) {
            bytes[k] = (byte) (w >> (8 * k));
        }
        boolean ended = false;
        for (byte b : bytes) {
            if (b < 0 || b == 127 || (ended && b != 0)) {
                return OUTSIDE;
            }
            ended |= b == 0;
            if (!ended) {
                more.append((char) b);
            }
        }
        if (page.length() + more.length() > 90) {
            return FULL;
        }
        page.append(more);
        return page.length();
    }

    int blank() {
        int had = page.length();
        page.setLength(0);
        return had;
    }

    private static Matcher match(int persons, String text) {
        String weight = "(?:0[1-9]|[1-9][0-9]|[1-9])", chance = "(?:100|[1-9][0-9]|[0-9])";
        String one = weight + ":" + chance + "(?:," + chance + "){" + (persons - 1) + "}";
        return Pattern.compile(one + "(?:;" + one + "){0,4}").matcher(text);
    }

    int fault() {
        for (int size = 1; size <= page.length(); size++) {
            boolean goesOn = false;
            for (int n = 2; n <= 4; n++) {
                Matcher m = match(n, page.substring(0, size));
                goesOn |= m.matches() || m.hitEnd();
            }
            if (!goesOn) {
                return size - 1;
            }
        }
        return page.length();
    }

    int question() {
        for (int n = 2; n <= 4; n++) {
            if (match(n, page.toString()).matches()) {
                cases = new ArrayList<>();
                for (String one : page.toString().split(";")) {
                    String[] numbers = one.split("[:,]");
                    int[] read = new int[n + 1];
                    for (int k = 0; k <= n; k++) {
                        read[k] = Integer.parseInt(numbers[k]);
                    }
                    cases.add(read);
                }
                persons = n;
                java.util.Arrays.fill(costs, 0);
                rowAnswers.clear();
                rowGuesses.clear();
                rowTold.clear();
                page.setLength(0);
                return n;
            }
        }
        return STATE;
    }

    private boolean isPerson(int p) {
        return p >= 0 && p < persons;
    }

    int chance(int c, int person) {
        if (c < 0 || c >= cases.size() || (person != NONE && !isPerson(person))) {
            return UNKNOWN;
        }
        return cases.get(c)[person + 1];
    }

    int cost(int person, int v) {
        if (!isPerson(person)) {
            return UNKNOWN;
        }
        if (v < 0 || v > 999) {
            return OUTSIDE;
        }
        int was = costs[person];
        costs[person] = v;
        return was;
    }

    long thinks(int i, int sign, int j, int part) {
        if (!isPerson(i) || !isPerson(j) || i == j) {
            return UNKNOWN;
        }
        if (sign < 0 || sign > 1 || part < 0 || part > 1) {
            return OUTSIDE;
        }
        long both = 0, one = 0;
        for (int[] c : cases) {
            long saw = c[0] * (sign == 1 ? c[i + 1] : 100 - c[i + 1]);
            one += saw * 100;
            both += saw * c[j + 1];
        }
        return one == 0 ? NONE : Part.of(both, one).part(part);
    }

    // ---- pays: {kind, q0, q1, q2, q3}

    int pay(int kind, int q0, int q1, int q2, int q3) {
        int[] q = {q0, q1, q2, q3};
        for (int k = 0; k < 4; k++) {
            int most = kind == 4 && k % 2 == 1 ? 100 : 999;
            if (kind < 0 || kind > 4 || q[k] < 0 || q[k] > most) {
                return OUTSIDE;
            }
        }
        if (pays.size() == 8) {
            return FULL;
        }
        pays.add(new int[] {kind, q0, q1, q2, q3});
        return pays.size() - 1;
    }

    private boolean isPay(int pay) {
        return pay >= 0 && pay < pays.size();
    }

    int as(int pay, int kind) {
        if (!isPay(pay)) {
            return UNKNOWN;
        }
        if (kind < 0 || kind > 4) {
            return OUTSIDE;
        }
        int is = pays.get(pay)[0];
        return kind == 0 || kind == is || (is == 3 && kind == 2) || (is == 4 && kind == 1) ? pay : NONE;
    }

    int about(int pay, int what) {
        if (!isPay(pay)) {
            return UNKNOWN;
        }
        if (what < 0 || what > 4) {
            return OUTSIDE;
        }
        return pays.get(pay)[(what + 1) % 5];
    }

    private int got(int[] pay, int person, int[] answers) {
        int x = answers[person], sum = 0, alike = 0;
        for (int other = 0; other < persons; other++) {
            int y = answers[other];
            alike += y == x ? 1 : 0;
            if (other == person) {
                continue;
            }
            if (pay[0] == 1 || pay[0] == 4) {
                sum += y == x ? pay[1] : 0;
            }
            if (pay[0] == 2 || pay[0] == 3) {
                sum += pay[1 + 2 * x + y];
            }
        }
        if (pay[0] == 0) {
            sum = pay[1];
        }
        if (pay[0] == 3 && alike < persons - alike) {
            sum += pay[1 + 2 * x] * (persons - alike - alike);
        }
        return sum;
    }

    private int[] bits(int number) {
        int[] bits = new int[persons];
        for (int p = 0; p < persons; p++) {
            bits[p] = number >> p & 1;
        }
        return bits;
    }

    int gets(int pay, int person, int answers) {
        if (!isPay(pay) || !isPerson(person)) {
            return UNKNOWN;
        }
        if (answers < 0 || answers >= 1 << persons) {
            return OUTSIDE;
        }
        return got(pays.get(pay), person, bits(answers));
    }

    private int[] ways(int profile) {
        int[] ways = new int[persons];
        int left = profile;
        for (int p = 0; p < persons; p++) {
            ways[p] = left % 4;
            left /= 4;
        }
        return ways;
    }

    private int profile(int[] ways) {
        int sum = 0;
        for (int p = persons - 1; p >= 0; p--) {
            sum = 4 * sum + ways[p];
        }
        return sum;
    }

    private int profiles() {
        return (int) Math.pow(4, persons);
    }

    private Part worth(int[] pay, int[] ways, int person) {
        BigInteger sum = BigInteger.ZERO;
        long weights = 0;
        for (int[] c : cases) {
            weights += c[0];
            for (int s = 0; s < 1 << persons; s++) {
                int[] signs = bits(s), answers = new int[persons];
                long likely = c[0];
                int ones = 0;
                for (int p = 0; p < persons; p++) {
                    likely *= signs[p] == 1 ? c[p + 1] : 100 - c[p + 1];
                    ones += signs[p];
                    answers[p] = new int[] {signs[p], 1 - signs[p], 0, 1}[ways[p]];
                }
                long gets = 10000L * got(pay, person, answers);
                if (pay[0] == 4) {
                    int seesOne = ones > persons - ones ? pay[4] : 100 - pay[4];
                    for (int sees = 0; sees <= 1; sees++) {
                        int chance = sees == 1 ? seesOne : 100 - seesOne;
                        gets += sees == answers[person] ? (long) pay[2] * chance * pay[3] : 0;
                    }
                }
                sum = sum.add(BigInteger.valueOf(likely).multiply(BigInteger.valueOf(gets)));
            }
        }
        BigInteger below = BigInteger.valueOf(weights * 10000).multiply(BigInteger.valueOf(100).pow(persons));
        Part average = Part.of(sum, below);
        return ways[person] < 2 ? average.less(Part.of(costs[person], 1)) : average;
    }

    long worth(int pay, int profile, int person, int part) {
        if (!isPay(pay) || !isPerson(person)) {
            return -2000000000000000001L;
        }
        if (profile < 0 || profile >= profiles() || part < 0 || part > 1) {
            return -2000000000000000002L;
        }
        return worth(pays.get(pay), ways(profile), person).part(part);
    }

    // ---- at rest

    private int best(int[] pay, int[] ways, int person) {
        int best = 0;
        int[] tried = ways.clone();
        Part most = null;
        for (int way = 0; way < 4; way++) {
            tried[person] = way;
            Part now = worth(pay, tried, person);
            if (most == null || now.isMoreThan(most)) {
                most = now;
                best = way;
            }
        }
        return best;
    }

    private Part gain(int[] pay, int[] ways, int person) {
        int[] tried = ways.clone();
        tried[person] = best(pay, ways, person);
        return worth(pay, tried, person).less(worth(pay, ways, person));
    }

    private int first(int[] pay, int[] ways) {
        for (int p = 0; p < persons; p++) {
            if (gain(pay, ways, p).above().signum() > 0) {
                return p;
            }
        }
        return NONE;
    }

    private int refusal(int pay, int profile, int what, int most) {
        if (!isPay(pay)) {
            return UNKNOWN;
        }
        if (cases.isEmpty()) {
            return STATE;
        }
        return profile < 0 || profile >= profiles() || what < 0 || what > most ? OUTSIDE : 0;
    }

    int rests(int pay, int profile, int what) {
        int refusal = refusal(pay, profile, what, 2);
        if (refusal != 0) {
            return refusal;
        }
        int first = first(pays.get(pay), ways(profile));
        if (what == 0) {
            return first == NONE ? 1 : 0;
        }
        return what == 1 || first == NONE ? first : best(pays.get(pay), ways(profile), first);
    }

    long gain(int pay, int profile, int person, int part) {
        if (!isPay(pay) || !isPerson(person)) {
            return UNKNOWN;
        }
        if (profile < 0 || profile >= profiles() || part < 0 || part > 1) {
            return OUTSIDE;
        }
        return gain(pays.get(pay), ways(profile), person).part(part);
    }

    private Part together(int[] pay, int profile) {
        Part sum = Part.of(0, 1);
        for (int p = 0; p < persons; p++) {
            sum = sum.plus(worth(pay, ways(profile), p));
        }
        return sum;
    }

    int all(int pay, int what) {
        if (!isPay(pay)) {
            return UNKNOWN;
        }
        if (cases.isEmpty()) {
            return STATE;
        }
        if (what < 0 || what > 99 || (what > 1 && what < 10)) {
            return OUTSIDE;
        }
        List<Integer> rests = new ArrayList<>();
        int richer = 0;
        for (int profile = 0; profile < profiles(); profile++) {
            if (first(pays.get(pay), ways(profile)) == NONE) {
                rests.add(profile);
                richer += together(pays.get(pay), profile).isMoreThan(together(pays.get(pay), 0)) ? 1 : 0;
            }
        }
        if (what < 2) {
            return what == 0 ? rests.size() : richer;
        }
        return what - 10 < rests.size() ? rests.get(what - 10) : NONE;
    }

    int group(int pay, int profile, int what) {
        int refusal = refusal(pay, profile, what, 1);
        if (refusal != 0) {
            return refusal;
        }
        int[] from = ways(profile);
        for (int size = 1; size <= persons; size++) {
            for (int set = 0; set < 1 << persons; set++) {
                for (int to = 0; to < profiles() && Integer.bitCount(set) == size; to++) {
                    if (gains(pays.get(pay), set, from, ways(to))) {
                        return what == 0 ? set : to;
                    }
                }
            }
        }
        return NONE;
    }

    private boolean gains(int[] pay, int set, int[] from, int[] to) {
        for (int p = 0; p < persons; p++) {
            if ((from[p] != to[p]) != ((set >> p & 1) == 1)) {
                return false;
            }
        }
        for (int p = 0; p < persons; p++) {
            if ((set >> p & 1) == 1 && !worth(pay, to, p).isMoreThan(worth(pay, from, p))) {
                return false;
            }
        }
        return true;
    }

    int goes(int pay, int profile, int what) {
        int refusal = refusal(pay, profile, what, 2);
        return refusal != 0 ? refusal : travel(pays.get(pay), profile)[what];
    }

    private int[] travel(int[] pay, int profile) {
        List<Integer> been = new ArrayList<>();
        int[] ways = ways(profile);
        while (true) {
            been.add(profile(ways));
            int first = first(pay, ways);
            if (first == NONE) {
                return new int[] {profile(ways), been.size() - 1, 0};
            }
            ways[first] = best(pay, ways, first);
            if (been.contains(profile(ways))) {
                return new int[] {profile(ways), been.size(), 1};
            }
        }
    }

    int drawn(int pay) {
        if (!isPay(pay)) {
            return UNKNOWN;
        }
        if (cases.isEmpty()) {
            return STATE;
        }
        int drawn = 0;
        for (int profile = 0; profile < profiles(); profile++) {
            int[] went = travel(pays.get(pay), profile);
            drawn += went[0] == 0 && went[2] == 0 ? 1 : 0;
        }
        return drawn;
    }

    // ---- the cheapest

    private boolean truthRests(int... pay) {
        return first(pay, new int[persons]) == NONE;
    }

    int leastSame() {
        if (cases.isEmpty()) {
            return STATE;
        }
        for (int q0 = 0; q0 <= 999; q0++) {
            if (truthRests(1, q0, 0, 0, 0)) {
                return q0;
            }
        }
        return NONE;
    }

    int leastTable(int what) {
        if (cases.isEmpty()) {
            return STATE;
        }
        if (what < 0 || what > 4) {
            return OUTSIDE;
        }
        if (tablesDone == 10) {
            return STATE;
        }
        tablesDone++;
        int count = 0;
        int[] least = {NONE, NONE, NONE, NONE, NONE};
        Part price = null;
        for (int t = 0; t < 10000; t++) {
            int[] table = {2, t / 1000, t / 100 % 10, t / 10 % 10, t % 10};
            if (truthRests(table)) {
                count++;
                Part now = together(table, 0);
                if (price == null || price.isMoreThan(now)) {
                    price = now;
                    least = table;
                }
            }
        }
        return what == 4 ? count : least[what + 1];
    }

    int leastLook(int pay) {
        if (!isPay(pay)) {
            return UNKNOWN;
        }
        if (cases.isEmpty() || pays.get(pay)[0] != 4) {
            return STATE;
        }
        int[] tried = pays.get(pay).clone();
        for (int q1 = 0; q1 <= 100; q1++) {
            tried[2] = q1;
            if (truthRests(tried)) {
                return q1;
            }
        }
        return NONE;
    }

    int mayBe(int pay, int e) {
        if (!isPay(pay)) {
            return UNKNOWN;
        }
        if (cases.isEmpty()) {
            return STATE;
        }
        if (e < 0 || e > 100) {
            return OUTSIDE;
        }
        int count = truthRests(pays.get(pay)) ? 1 : 0;
        for (int[] c : cases) {
            for (int p = 1; p <= persons; p++) {
                int was = c[p];
                for (int sign = -1; sign <= 1; sign += 2) {
                    c[p] = Math.max(0, Math.min(100, was + sign * e));
                    count += truthRests(pays.get(pay)) ? 1 : 0;
                    c[p] = was;
                }
            }
        }
        return count;
    }

    // ---- rows

    int row(int answers, long guesses) {
        if (cases.isEmpty()) {
            return STATE;
        }
        if (answers < 0 || answers >= Math.pow(3, persons) || guesses < -1 || guesses >= Math.pow(101, persons)) {
            return OUTSIDE;
        }
        if (rowTold.size() == 24) {
            return FULL;
        }
        int[] a = new int[persons], g = new int[persons];
        long left = answers, more = guesses;
        for (int p = 0; p < persons; p++) {
            a[p] = (int) (left % 3);
            g[p] = (int) (more % 101);
            left /= 3;
            more /= 101;
        }
        rowAnswers.add(a);
        rowGuesses.add(guesses == NONE ? null : g);
        rowTold.add(new long[] {answers, guesses});
        return rowTold.size();
    }

    int alike(int i, int j, int part) {
        if (!isPerson(i) || !isPerson(j) || i == j) {
            return -1000001;
        }
        if (part < 0 || part > 3) {
            return -1000002;
        }
        List<int[]> both = new ArrayList<>();
        for (int[] a : rowAnswers) {
            if (a[i] != 2 && a[j] != 2) {
                both.add(a);
            }
        }
        if (both.size() <= part / 2) {
            return -1000003;
        }
        int same = 0, across = 0, pairs = 0;
        for (int k = 0; k < both.size(); k++) {
            same += both.get(k)[i] == both.get(k)[j] ? 1 : 0;
            for (int m = 0; m < both.size(); m++) {
                pairs += k != m ? 1 : 0;
                across += k != m && both.get(k)[i] == both.get(m)[j] ? 1 : 0;
            }
        }
        Part alike = Part.of(same, both.size());
        return (int) (part < 2 ? alike : alike.less(Part.of(across, pairs))).part(part % 2);
    }

    int crowd(int row, int what) {
        if (row < 0 || row >= rowTold.size()) {
            return UNKNOWN;
        }
        if (what < 0 || what > 1) {
            return OUTSIDE;
        }
        int[] a = rowAnswers.get(row), g = rowGuesses.get(row);
        int ones = 0, answered = 0, guessed = 0;
        for (int p = 0; p < persons; p++) {
            if (a[p] != 2) {
                answered++;
                ones += a[p];
                guessed += g == null ? 0 : g[p];
            }
        }
        if (what == 0) {
            return 2 * ones == answered ? NONE : 2 * ones > answered ? 1 : 0;
        }
        if (g == null || answered == 0) {
            return NONE;
        }
        Part share = Part.of(ones, answered), mean = Part.of(guessed, 100L * answered);
        return share.isMoreThan(mean) ? 1 : mean.isMoreThan(share) ? 0 : NONE;
    }

    // ---- what is told

    int count(int what) {
        int[] counts = {cases.size(), persons, pays.size(), rowTold.size(), page.length(), tablesDone};
        return what < 0 || what > 5 ? OUTSIDE : counts[what];
    }

    long digest() {
        List<Long> numbers = new ArrayList<>();
        for (int[] c : cases) {
            for (int number : c) {
                numbers.add((long) number);
            }
        }
        for (int p = 0; p < persons; p++) {
            numbers.add((long) costs[p]);
        }
        for (int k = 0; k < pays.size(); k++) {
            for (int number : pays.get(k)) {
                numbers.add((long) number);
            }
            if (!cases.isEmpty()) {
                numbers.add((long) rests(k, 0, 0));
                numbers.add((long) all(k, 0));
                numbers.add(worth(k, 0, 0, 0));
                numbers.add(worth(k, 0, 0, 1));
            }
        }
        for (int r = 0; r < rowTold.size(); r++) {
            numbers.add(rowTold.get(r)[0]);
            numbers.add(rowTold.get(r)[1]);
            numbers.add((long) crowd(r, 0));
            numbers.add((long) crowd(r, 1));
        }
        for (int k = 0; k < page.length(); k++) {
            numbers.add((long) page.charAt(k));
        }
        for (int what = 0; what <= 5; what++) {
            numbers.add((long) count(what));
        }
        long h = 347;
        for (long number : numbers) {
            h = 31 * h + number;
        }
        return h;
    }
}
