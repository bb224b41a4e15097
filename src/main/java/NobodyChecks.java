/**
 * Answers that nobody can check: what may be so, what each PERSON sees, what PAYS make of it,
 * and whether truth rests. The words in capitals are those of the document.
 */
public final class NobodyChecks {
    public static final int NONE = -1, UNKNOWN = -101, OUTSIDE = -102, STATE = -103, FULL = -104;

    private static final int MOST_CASES = 5;
    private static final int LEAST_PERSONS = 2;
    private static final int MOST_PERSONS = 4;
    private static final int MOST_SIGNS = 16;
    private static final int MOST_PROFILES = 256;
    private static final int MOST_PAYS = 8;
    private static final int MOST_ROWS = 24;
    private static final int MOST_LETTERS = 90;
    private static final int MOST_TABLES_DONE = 10;

    private static final int HUNDRED = 100;
    private static final int MOST_NUMBER = 999;
    private static final int NUMBERS = 4;
    private static final int WAYS = 4;
    private static final int TRUTH = 0;
    private static final int NO_ANSWER = 2;
    private static final int FIRST_OF_RESTS = 10;
    private static final int LAST_OF_RESTS = 99;

    private static final int KIND_PAY = 0;
    private static final int KIND_SAME = 1;
    private static final int KIND_TABLE = 2;
    private static final int KIND_RARE = 3;
    private static final int KIND_CHECK = 4;

    // WORTH and BEYOND LUCK may be below 0, so their refusals lie where no answer can.
    private static final long WORTH_UNKNOWN = -2000000000000000001L;
    private static final long WORTH_OUTSIDE = -2000000000000000002L;
    private static final int ALIKE_UNKNOWN = -1000001;
    private static final int ALIKE_OUTSIDE = -1000002;
    private static final int ALIKE_NONE = -1000003;

    // Two longs have their greatest measure after some 90 turns.
    private static final int MOST_TURNS = 1000;

    private static final long DIGEST_START = 347L;
    private static final long DIGEST_STEP = 31L;

    private final Page page;
    private final Reader reader;
    private final Question asked;
    private final Pay[] pays;
    private final Play play;
    private final Cheapest cheapest;
    private final Rows rows;
    private int payCount;
    private int tablesDone;

    public NobodyChecks() {
        page = new Page();
        reader = new Reader();
        asked = new Question();
        pays = new Pay[MOST_PAYS];
        play = new Play(asked);
        cheapest = new Cheapest(asked);
        rows = new Rows();
    }

    // ---- the question

    public int letters(long w) {
        int told = Page.toldBy(w);
        if (told == NONE) {
            return OUTSIDE;
        }
        if (page.size + told > MOST_LETTERS) {
            return FULL;
        }
        page.append(w, told);
        return page.size;
    }

    public int blank() {
        int had = page.size;
        page.size = 0;
        return had;
    }

    public int fault() {
        return reader.readUntilFault(page);
    }

    public int question() {
        int place = reader.readUntilFault(page);
        if (place < page.size || !reader.isWhole()) {
            return STATE;
        }
        asked.adopt(reader);
        rows.size = 0;
        page.size = 0;
        forgetWorths();
        return asked.persons;
    }

    public int chance(int c, int person) {
        if (!asked.hasCase(c)) {
            return UNKNOWN;
        }
        if (person == NONE) {
            return asked.weights[c];
        }
        return asked.hasPerson(person) ? asked.chances[c][person] : UNKNOWN;
    }

    public int cost(int person, int v) {
        if (!asked.hasPerson(person)) {
            return UNKNOWN;
        }
        if (!isWithin(v, 0, MOST_NUMBER)) {
            return OUTSIDE;
        }
        int was = asked.costs[person];
        asked.costs[person] = v;
        return was;
    }

    public long thinks(int i, int sign, int j, int part) {
        if (!asked.hasPerson(i) || !asked.hasPerson(j) || i == j) {
            return UNKNOWN;
        }
        if (!isWithin(sign, 0, 1) || !isWithin(part, 0, 1)) {
            return OUTSIDE;
        }
        long below = asked.seenBelow(i, sign);
        if (below == 0) {
            return NONE;
        }
        return inLowestTerms(asked.seenAbove(i, sign, j), below, part);
    }

    // ---- pays

    public int pay(int kind, int q0, int q1, int q2, int q3) {
        if (!isWithin(kind, KIND_PAY, KIND_CHECK) || !areNumbers(kind, q0, q1, q2, q3)) {
            return OUTSIDE;
        }
        if (payCount >= MOST_PAYS) {
            return FULL;
        }
        Pay told = madeOf(kind);
        told.become(q0, q1, q2, q3);
        pays[payCount] = told;
        payCount++;
        return payCount - 1;
    }

    public int as(int pay, int kind) {
        Pay told = payOf(pay);
        if (told == null) {
            return UNKNOWN;
        }
        if (!isWithin(kind, KIND_PAY, KIND_CHECK)) {
            return OUTSIDE;
        }
        return isOf(told, kind) ? pay : NONE;
    }

    public int about(int pay, int what) {
        Pay told = payOf(pay);
        if (told == null) {
            return UNKNOWN;
        }
        if (!isWithin(what, 0, NUMBERS)) {
            return OUTSIDE;
        }
        return what == NUMBERS ? told.kind() : told.numbers[what];
    }

    public int gets(int pay, int person, int answers) {
        Pay told = payOf(pay);
        if (told == null || !asked.hasPerson(person)) {
            return UNKNOWN;
        }
        if (!isWithin(answers, 0, asked.signLimit() - 1)) {
            return OUTSIDE;
        }
        int own = (answers >> person) & 1;
        int ones = Integer.bitCount(answers) - own;
        return told.amount(own, asked.persons - 1 - ones, ones);
    }

    public long worth(int pay, int profile, int person, int part) {
        Pay told = payOf(pay);
        if (told == null || !asked.hasPerson(person)) {
            return WORTH_UNKNOWN;
        }
        if (!asked.hasProfile(profile) || !isWithin(part, 0, 1)) {
            return WORTH_OUTSIDE;
        }
        play.load(told);
        return inLowestTerms(play.above(profile, person), play.below, part);
    }

    // ---- at rest

    public int rests(int pay, int profile, int what) {
        Pay told = payOf(pay);
        int refusal = refusalOf(told, profile, what, 2);
        if (told == null || refusal != 0) {
            return refusal;
        }
        play.load(told);
        int first = play.firstUnrested(profile);
        if (what == 0) {
            return first == NONE ? 1 : 0;
        }
        return what == 1 || first == NONE ? first : play.bestWay(profile, first);
    }

    public long gain(int pay, int profile, int person, int part) {
        Pay told = payOf(pay);
        if (told == null || !asked.hasPerson(person)) {
            return UNKNOWN;
        }
        if (!asked.hasProfile(profile) || !isWithin(part, 0, 1)) {
            return OUTSIDE;
        }
        play.load(told);
        return inLowestTerms(play.gainAbove(profile, person), play.below, part);
    }

    public int all(int pay, int what) {
        Pay told = payOf(pay);
        if (told == null) {
            return UNKNOWN;
        }
        if (!asked.stands()) {
            return STATE;
        }
        if (!isWithin(what, 0, 1) && !isWithin(what, FIRST_OF_RESTS, LAST_OF_RESTS)) {
            return OUTSIDE;
        }
        play.load(told);
        if (what == 0) {
            return play.countRests();
        }
        return what == 1 ? play.countRicher() : play.restAt(what - FIRST_OF_RESTS);
    }

    public int group(int pay, int profile, int what) {
        Pay told = payOf(pay);
        int refusal = refusalOf(told, profile, what, 1);
        if (told == null || refusal != 0) {
            return refusal;
        }
        play.load(told);
        play.seekGroup(profile);
        return what == 0 ? play.groupSet : play.groupProfile;
    }

    public int goes(int pay, int profile, int what) {
        Pay told = payOf(pay);
        int refusal = refusalOf(told, profile, what, 2);
        if (told == null || refusal != 0) {
            return refusal;
        }
        play.load(told);
        play.travel(profile);
        if (what == 0) {
            return play.last;
        }
        return what == 1 ? play.steps : play.round;
    }

    public int drawn(int pay) {
        Pay told = payOf(pay);
        if (told == null) {
            return UNKNOWN;
        }
        if (!asked.stands()) {
            return STATE;
        }
        play.load(told);
        return play.countDrawn();
    }

    // ---- the cheapest

    public int leastSame() {
        return asked.stands() ? cheapest.seekSame() : STATE;
    }

    public int leastTable(int what) {
        if (!asked.stands()) {
            return STATE;
        }
        if (!isWithin(what, 0, NUMBERS)) {
            return OUTSIDE;
        }
        if (tablesDone >= MOST_TABLES_DONE) {
            return STATE;
        }
        tablesDone++;
        cheapest.seekTable();
        return what == NUMBERS ? cheapest.tablesResting : cheapest.leastNumbers[what];
    }

    public int leastLook(int pay) {
        Pay told = payOf(pay);
        if (told == null) {
            return UNKNOWN;
        }
        if (!asked.stands() || told.kind() != KIND_CHECK) {
            return STATE;
        }
        return cheapest.seekLook(told);
    }

    public int mayBe(int pay, int e) {
        Pay told = payOf(pay);
        if (told == null) {
            return UNKNOWN;
        }
        if (!asked.stands()) {
            return STATE;
        }
        return isWithin(e, 0, HUNDRED) ? cheapest.countMayBe(told, e) : OUTSIDE;
    }

    // ---- rows

    public int row(int answers, long guesses) {
        if (!asked.stands()) {
            return STATE;
        }
        if (!isWithin(answers, 0, Rows.answersLimit(asked.persons) - 1)) {
            return OUTSIDE;
        }
        if (guesses < NONE || guesses >= Rows.guessesLimit(asked.persons)) {
            return OUTSIDE;
        }
        if (rows.size >= MOST_ROWS) {
            return FULL;
        }
        rows.append(answers, guesses);
        return rows.size;
    }

    public int alike(int i, int j, int part) {
        if (!asked.hasPerson(i) || !asked.hasPerson(j) || i == j) {
            return ALIKE_UNKNOWN;
        }
        if (!isWithin(part, 0, 3)) {
            return ALIKE_OUTSIDE;
        }
        int both = rows.answeredByBoth(i, j);
        boolean beyondLuck = part >= 2;
        if (both < (beyondLuck ? 2 : 1)) {
            return ALIKE_NONE;
        }
        int same = rows.sameInOneRow(i, j);
        if (!beyondLuck) {
            return (int) inLowestTerms(same, both, part);
        }
        int pairs = both * (both - 1);
        int above = same * (both - 1) - rows.sameInTwoRows(i, j);
        return (int) inLowestTerms(above, pairs, part - 2);
    }

    public int crowd(int row, int what) {
        if (!isWithin(row, 0, rows.size - 1)) {
            return UNKNOWN;
        }
        if (!isWithin(what, 0, 1)) {
            return OUTSIDE;
        }
        return what == 0 ? rows.says(row, asked.persons) : rows.surprisedAt(row, asked.persons);
    }

    // ---- what is told

    public int count(int what) {
        switch (what) {
            case 0:
                return asked.cases;
            case 1:
                return asked.persons;
            case 2:
                return payCount;
            case 3:
                return rows.size;
            case 4:
                return page.size;
            case 5:
                return tablesDone;
            default:
                return OUTSIDE;
        }
    }

    public long digest() {
        long h = withRows(withPays(withQuestion(DIGEST_START)));
        for (int place = 0; place < page.size; place++) {
            h = mixed(h, page.codes[place]);
        }
        for (int what = 0; what <= 5; what++) {
            h = mixed(h, count(what));
        }
        return h;
    }

    private long withQuestion(long start) {
        long h = start;
        for (int c = 0; c < asked.cases; c++) {
            h = mixed(h, asked.weights[c]);
            for (int person = 0; person < asked.persons; person++) {
                h = mixed(h, asked.chances[c][person]);
            }
        }
        for (int person = 0; person < asked.persons; person++) {
            h = mixed(h, asked.costs[person]);
        }
        return h;
    }

    private long withPays(long start) {
        long h = start;
        for (int number = 0; number < payCount; number++) {
            Pay told = payOf(number);
            if (told != null) {
                h = withPay(h, told);
            }
        }
        return h;
    }

    private long withPay(long start, Pay told) {
        long h = mixed(start, told.kind());
        for (int place = 0; place < NUMBERS; place++) {
            h = mixed(h, told.numbers[place]);
        }
        if (!asked.stands()) {
            return h;
        }
        play.load(told);
        h = mixed(h, play.firstUnrested(TRUTH) == NONE ? 1 : 0);
        h = mixed(h, play.countRests());
        h = mixed(h, inLowestTerms(play.above(TRUTH, 0), play.below, 0));
        return mixed(h, inLowestTerms(play.above(TRUTH, 0), play.below, 1));
    }

    private long withRows(long start) {
        long h = start;
        for (int row = 0; row < rows.size; row++) {
            h = mixed(h, rows.answers[row]);
            h = mixed(h, rows.guesses[row]);
            h = mixed(h, rows.says(row, asked.persons));
            h = mixed(h, rows.surprisedAt(row, asked.persons));
        }
        return h;
    }

    private static long mixed(long h, long number) {
        return DIGEST_STEP * h + number;
    }

    private Pay payOf(int number) {
        return isWithin(number, 0, payCount - 1) ? pays[number] : null;
    }

    private void forgetWorths() {
        for (int number = 0; number < payCount; number++) {
            Pay told = payOf(number);
            if (told != null) {
                told.reckoned = false;
            }
        }
    }

    /** The refusal of a call about a PROFILE under a PAY, or 0. */
    private int refusalOf(Pay told, int profile, int what, int mostWhat) {
        if (told == null) {
            return UNKNOWN;
        }
        if (!asked.stands()) {
            return STATE;
        }
        return asked.hasProfile(profile) && isWithin(what, 0, mostWhat) ? 0 : OUTSIDE;
    }

    private static boolean isWithin(int value, int least, int most) {
        return value >= least && value <= most;
    }

    private static boolean areNumbers(int kind, int q0, int q1, int q2, int q3) {
        int mostShare = kind == KIND_CHECK ? HUNDRED : MOST_NUMBER;
        return isWithin(q0, 0, MOST_NUMBER) && isWithin(q1, 0, mostShare)
            && isWithin(q2, 0, MOST_NUMBER) && isWithin(q3, 0, mostShare);
    }

    private static Pay madeOf(int kind) {
        switch (kind) {
            case KIND_SAME:
                return new Same();
            case KIND_TABLE:
                return new Table();
            case KIND_RARE:
                return new Rare();
            case KIND_CHECK:
                return new Check();
            default:
                return new Pay();
        }
    }

    private static boolean isOf(Pay told, int kind) {
        switch (kind) {
            case KIND_PAY:
                return true;
            case KIND_SAME:
                return told instanceof Same;
            case KIND_TABLE:
                return told instanceof Table;
            case KIND_RARE:
                return told instanceof Rare;
            case KIND_CHECK:
                return told instanceof Check;
            default:
                return false;
        }
    }

    /** One part (0 above, 1 below) of a fraction in lowest terms; below is 1 at least. */
    private static long inLowestTerms(long above, long below, int part) {
        long measure = greatestMeasure(Math.abs(above), below);
        long whole = part == 0 ? above : below;
        return measure > 1 ? whole / measure : whole;
    }

    private static long greatestMeasure(long one, long other) {
        long greater = one;
        long lesser = other;
        for (int turn = 0; turn < MOST_TURNS && lesser > 0; turn++) {
            long left = greater % lesser;
            greater = lesser;
            lesser = left;
        }
        return greater;
    }

    /** THE PAGE: letters that are told and not yet read. */
    private static final class Page {
        private static final int BYTES = 8;
        private static final int MOST_CODE = 126;

        final int[] codes = new int[MOST_LETTERS];
        int size;

        /** How many letters w tells, or NONE if it does not tell letters. */
        static int toldBy(long w) {
            int told = 0;
            boolean ended = false;
            for (int place = 0; place < BYTES; place++) {
                int code = codeAt(w, place);
                if (code > MOST_CODE || (ended && code != 0)) {
                    return NONE;
                }
                if (code == 0) {
                    ended = true;
                } else {
                    told++;
                }
            }
            return told;
        }

        void append(long w, int told) {
            for (int place = 0; place < told && size < MOST_LETTERS; place++) {
                codes[size] = codeAt(w, place);
                size++;
            }
        }

        private static int codeAt(long w, int place) {
            return (int) (w >>> (BYTES * place)) & 255;
        }
    }

    /** Reads THE PAGE letter by letter, and stops where no QUESTION goes on so. */
    private static final class Reader {
        final int[] weights = new int[MOST_CASES];
        final int[][] chances = new int[MOST_CASES][MOST_PERSONS];
        /** How many CASES have begun. */
        int cases;
        /** How many CHANCES of this CASE have begun. */
        int persons;
        /** How many PERSONS the first CASE has; 0 until it has ended. */
        private int agreed;
        private int digits;
        private int value;

        /** The place of the first letter that no QUESTION has there; the size if there is none. */
        int readUntilFault(Page page) {
            agreed = 0;
            cases = 0;
            beginCase();
            for (int place = 0; place < page.size; place++) {
                if (!takes(page.codes[place])) {
                    return place;
                }
            }
            return page.size;
        }

        /** Whether what was read may end here. */
        boolean isWhole() {
            return persons > 0 && digits > 0 && mayEndCase();
        }

        private boolean takes(int code) {
            if (code >= '0' && code <= '9') {
                return persons == 0 ? takesOfWeight(code - '0') : takesOfChance(code - '0');
            }
            if (digits == 0) {
                return false;
            }
            switch (code) {
                case ':':
                    return endsWeight();
                case ',':
                    return endsChance();
                case ';':
                    return endsCase();
                default:
                    return false;
            }
        }

        private boolean takesOfWeight(int digit) {
            int grown = 10 * value + digit;
            // A 0 ahead is not ruled out for a WEIGHT; only 00 can't become 1 to 99.
            if (digits >= 2 || (digits == 1 && grown == 0)) {
                return false;
            }
            takeDigit(grown);
            weights[cases - 1] = value;
            return true;
        }

        private boolean takesOfChance(int digit) {
            int grown = 10 * value + digit;
            if (digits > 0 && (value == 0 || grown > HUNDRED)) {
                return false;
            }
            takeDigit(grown);
            chances[cases - 1][persons - 1] = value;
            return true;
        }

        private void takeDigit(int grown) {
            value = grown;
            digits++;
        }

        private boolean endsWeight() {
            if (persons > 0 || value == 0) {
                return false;
            }
            beginChance();
            return true;
        }

        private boolean endsChance() {
            int most = agreed == 0 ? MOST_PERSONS : agreed;
            if (persons == 0 || persons >= most) {
                return false;
            }
            beginChance();
            return true;
        }

        private boolean endsCase() {
            if (persons == 0 || cases >= MOST_CASES || !mayEndCase()) {
                return false;
            }
            agreed = persons;
            beginCase();
            return true;
        }

        private boolean mayEndCase() {
            return agreed == 0 ? persons >= LEAST_PERSONS : persons == agreed;
        }

        private void beginCase() {
            cases++;
            persons = 0;
            digits = 0;
            value = 0;
        }

        private void beginChance() {
            persons++;
            digits = 0;
            value = 0;
        }
    }

    /** THE QUESTION, and how likely all SIGNS together are. */
    private static final class Question {
        final int[] weights = new int[MOST_CASES];
        final int[][] chances = new int[MOST_CASES][MOST_PERSONS];
        final int[] costs = new int[MOST_PERSONS];
        /** How likely SIGNS (bits of PERSONS) are, in parts of total. */
        final long[] mass = new long[MOST_SIGNS];
        int cases;
        int persons;
        long total;

        void adopt(Reader reader) {
            cases = reader.cases;
            persons = reader.persons;
            total = 0;
            for (int c = 0; c < cases; c++) {
                weights[c] = reader.weights[c];
                total += weights[c];
                for (int person = 0; person < persons; person++) {
                    chances[c][person] = reader.chances[c][person];
                }
            }
            for (int person = 0; person < persons; person++) {
                costs[person] = 0;
                total *= HUNDRED;
            }
            fillMass(mass);
        }

        boolean stands() {
            return cases > 0;
        }

        boolean hasCase(int c) {
            return c >= 0 && c < cases;
        }

        boolean hasPerson(int person) {
            return person >= 0 && person < persons;
        }

        boolean hasProfile(int profile) {
            return profile >= 0 && profile < profileLimit();
        }

        int signLimit() {
            return 1 << persons;
        }

        int profileLimit() {
            return 1 << (2 * persons);
        }

        void fillMass(long[] filled) {
            int limit = signLimit();
            for (int signs = 0; signs < limit; signs++) {
                long sum = 0;
                for (int c = 0; c < cases; c++) {
                    long product = weights[c];
                    for (int person = 0; person < persons; person++) {
                        product *= likely(c, person, (signs >> person) & 1);
                    }
                    sum += product;
                }
                filled[signs] = sum;
            }
        }

        long seenBelow(int person, int sign) {
            long sum = 0;
            for (int c = 0; c < cases; c++) {
                sum += (long) weights[c] * likely(c, person, sign) * HUNDRED;
            }
            return sum;
        }

        long seenAbove(int person, int sign, int other) {
            long sum = 0;
            for (int c = 0; c < cases; c++) {
                sum += (long) weights[c] * likely(c, person, sign) * chances[c][other];
            }
            return sum;
        }

        private int likely(int c, int person, int sign) {
            return sign == 1 ? chances[c][person] : HUNDRED - chances[c][person];
        }
    }

    /** A PAY: so much, whatever is answered. */
    private static class Pay {
        final int[] numbers = new int[NUMBERS];
        /** What is got by each PROFILE and PERSON; made when it is first asked for. */
        long[] averages;
        boolean reckoned;

        void become(int q0, int q1, int q2, int q3) {
            numbers[0] = q0;
            numbers[1] = q1;
            numbers[2] = q2;
            numbers[3] = q3;
        }

        int kind() {
            return KIND_PAY;
        }

        /** What one gets for the answer x, if of the others so many answer 0, and so many 1. */
        int amount(int x, int zeros, int ones) {
            return numbers[0];
        }

        /** In how many parts one of what is got is told, so that what the house adds is whole. */
        int unit() {
            return 1;
        }

        /** What the house adds on an average to the answer x, in parts of the unit. */
        int added(int x, boolean mostAreOne) {
            return 0;
        }
    }

    /** A SAME: so much for each other one who answers the same. */
    private static class Same extends Pay {
        int kind() {
            return KIND_SAME;
        }

        int amount(int x, int zeros, int ones) {
            return numbers[0] * (x == 0 ? zeros : ones);
        }
    }

    /** A TABLE: for each other one so much as it tells for both answers. */
    private static class Table extends Pay {
        int kind() {
            return KIND_TABLE;
        }

        int amount(int x, int zeros, int ones) {
            return x == 0 ? numbers[0] * zeros + numbers[1] * ones : numbers[2] * zeros + numbers[3] * ones;
        }
    }

    /** A RARE: a TABLE that gives more to those who are fewer. */
    private static final class Rare extends Table {
        int kind() {
            return KIND_RARE;
        }

        int amount(int x, int zeros, int ones) {
            int fewer = x == 0 ? ones - (zeros + 1) : zeros - (ones + 1);
            int once = x == 0 ? numbers[0] : numbers[2];
            return super.amount(x, zeros, ones) + once * Math.max(0, fewer);
        }
    }

    /** A CHECK: a SAME where the house looks now and then. */
    private static final class Check extends Same {
        int kind() {
            return KIND_CHECK;
        }

        int unit() {
            return HUNDRED * HUNDRED;
        }

        int added(int x, boolean mostAreOne) {
            int seesOne = mostAreOne ? numbers[3] : HUNDRED - numbers[3];
            return numbers[1] * numbers[2] * (x == 1 ? seesOne : HUNDRED - seesOne);
        }
    }

    /** What PROFILES are WORTH under one PAY, and where they go. */
    private static final class Play {
        private static final int PLACES = MOST_PROFILES * MOST_PERSONS;

        private final Question asked;
        private final int[] next = new int[MOST_PROFILES];
        private final int[] seen = new int[MOST_PROFILES];
        private long[] averages = new long[0];
        /** What stands below the line of every WORTH under the PAY. */
        long below;
        int groupSet;
        int groupProfile;
        int last;
        int steps;
        int round;

        Play(Question asked) {
            this.asked = asked;
        }

        /** Every other call is about the PAY that was loaded last. */
        void load(Pay pay) {
            if (pay.averages == null) {
                pay.averages = new long[PLACES];
            }
            averages = pay.averages;
            below = pay.unit() * asked.total;
            if (pay.reckoned) {
                return;
            }
            int limit = asked.profileLimit();
            for (int profile = 0; profile < limit; profile++) {
                for (int person = 0; person < asked.persons; person++) {
                    averages[placeOf(profile, person)] = average(pay, asked, asked.mass, profile, person);
                }
            }
            pay.reckoned = true;
        }

        /** What a PERSON gets on an average, in parts of the PAY's unit times the QUESTION's total. */
        static long average(Pay pay, Question asked, long[] mass, int profile, int person) {
            // A WAY's upper bit: it answers 0 without a look; its lower bit: the answer is turned then.
            int blind = 0;
            int turned = 0;
            for (int each = 0; each < asked.persons; each++) {
                turned |= ((profile >> (2 * each)) & 1) << each;
                blind |= ((profile >> (2 * each + 1)) & 1) << each;
            }
            int limit = asked.signLimit();
            long unit = pay.unit();
            long sum = 0;
            for (int signs = 0; signs < limit; signs++) {
                int answers = (signs & ~blind) ^ turned;
                int own = (answers >> person) & 1;
                int ones = Integer.bitCount(answers) - own;
                boolean mostAreOne = 2 * Integer.bitCount(signs) > asked.persons;
                long got = unit * pay.amount(own, asked.persons - 1 - ones, ones) + pay.added(own, mostAreOne);
                sum += mass[signs] * got;
            }
            return sum;
        }

        /** WORTH of a PERSON above the line. */
        long above(int profile, int person) {
            long got = averages[placeOf(profile, person)];
            boolean looks = ((profile >> (2 * person + 1)) & 1) == 0;
            return looks ? got - asked.costs[person] * below : got;
        }

        int bestWay(int profile, int person) {
            int best = 0;
            long most = above(withWay(profile, person, 0), person);
            for (int way = 1; way < WAYS; way++) {
                long tried = above(withWay(profile, person, way), person);
                if (tried > most) {
                    most = tried;
                    best = way;
                }
            }
            return best;
        }

        long gainAbove(int profile, int person) {
            int best = bestWay(profile, person);
            return above(withWay(profile, person, best), person) - above(profile, person);
        }

        int firstUnrested(int profile) {
            for (int person = 0; person < asked.persons; person++) {
                if (!isRested(profile, person)) {
                    return person;
                }
            }
            return NONE;
        }

        private boolean isRested(int profile, int person) {
            long now = above(profile, person);
            for (int way = 0; way < WAYS; way++) {
                if (above(withWay(profile, person, way), person) > now) {
                    return false;
                }
            }
            return true;
        }

        int countRests() {
            int limit = asked.profileLimit();
            int counted = 0;
            for (int profile = 0; profile < limit; profile++) {
                if (firstUnrested(profile) == NONE) {
                    counted++;
                }
            }
            return counted;
        }

        int countRicher() {
            int limit = asked.profileLimit();
            long byTruth = togetherAbove(TRUTH);
            int counted = 0;
            for (int profile = 0; profile < limit; profile++) {
                if (togetherAbove(profile) > byTruth && firstUnrested(profile) == NONE) {
                    counted++;
                }
            }
            return counted;
        }

        /** The PROFILE at rest that has so many others at rest ahead of it, or NONE. */
        int restAt(int ahead) {
            int limit = asked.profileLimit();
            int left = ahead;
            for (int profile = 0; profile < limit; profile++) {
                if (firstUnrested(profile) == NONE) {
                    if (left == 0) {
                        return profile;
                    }
                    left--;
                }
            }
            return NONE;
        }

        void seekGroup(int profile) {
            int limit = asked.profileLimit();
            int fewest = MOST_PERSONS + 1;
            groupSet = NONE;
            groupProfile = NONE;
            for (int other = 0; other < limit; other++) {
                int set = changedIn(profile, other);
                int size = Integer.bitCount(set);
                boolean isLess = size < fewest || (size == fewest && set < groupSet);
                if (size > 0 && isLess && allGain(set, profile, other)) {
                    fewest = size;
                    groupSet = set;
                    groupProfile = other;
                }
            }
        }

        /** Goes from a PROFILE until all rest or one comes again: last, steps and round tell of it. */
        void travel(int start) {
            int limit = asked.profileLimit();
            for (int profile = 0; profile < limit; profile++) {
                seen[profile] = 0;
            }
            last = start;
            steps = 0;
            round = 0;
            while (steps <= limit && round == 0) {
                seen[last] = 1;
                int then = nextOf(last);
                if (then == last) {
                    return;
                }
                last = then;
                steps++;
                round = seen[last];
            }
        }

        int countDrawn() {
            int limit = asked.profileLimit();
            for (int profile = 0; profile < limit; profile++) {
                next[profile] = nextOf(profile);
            }
            int counted = 0;
            for (int start = 0; start < limit; start++) {
                int profile = start;
                for (int step = 0; step < limit && next[profile] != profile; step++) {
                    profile = next[profile];
                }
                if (profile == TRUTH && next[profile] == profile) {
                    counted++;
                }
            }
            return counted;
        }

        /** The PROFILE that comes of a PROFILE by one step; itself, if all rest. */
        private int nextOf(int profile) {
            int first = firstUnrested(profile);
            return first == NONE ? profile : withWay(profile, first, bestWay(profile, first));
        }

        private long togetherAbove(int profile) {
            long sum = 0;
            for (int person = 0; person < asked.persons; person++) {
                sum += above(profile, person);
            }
            return sum;
        }

        private int changedIn(int profile, int other) {
            int set = 0;
            for (int person = 0; person < asked.persons; person++) {
                if ((((profile ^ other) >> (2 * person)) & 3) != 0) {
                    set |= 1 << person;
                }
            }
            return set;
        }

        private boolean allGain(int set, int profile, int other) {
            for (int person = 0; person < asked.persons; person++) {
                boolean belongs = ((set >> person) & 1) == 1;
                if (belongs && above(other, person) <= above(profile, person)) {
                    return false;
                }
            }
            return true;
        }

        private static int withWay(int profile, int person, int way) {
            return (profile & ~(3 << (2 * person))) | (way << (2 * person));
        }

        private static int placeOf(int profile, int person) {
            return profile * MOST_PERSONS + person;
        }
    }

    /**
     * The least numbers by which truth rests. What truth is WORTH more than another WAY (its lead)
     * is linear in those numbers, so that a few leads tell of all of them.
     */
    private static final class Cheapest {
        private static final int OTHER_WAYS = WAYS - 1;
        private static final int MOST_LEADS = MOST_PERSONS * OTHER_WAYS;
        private static final int MOST_OF_TABLE = 9;
        private static final int TABLES = 10000;

        private final Question asked;
        private final Same same = new Same();
        private final Table table = new Table();
        private final Check check = new Check();
        private final long[] changedMass = new long[MOST_SIGNS];
        private final long[][] leads = new long[NUMBERS][MOST_LEADS];
        private final long[] needs = new long[MOST_LEADS];
        private final long[] prices = new long[NUMBERS];
        private final int[] tried = new int[NUMBERS];
        /** The numbers of LEAST TABLE, NONE if there is none. */
        final int[] leastNumbers = new int[NUMBERS];
        int tablesResting;
        private long leastPrice;

        Cheapest(Question asked) {
            this.asked = asked;
        }

        int seekSame() {
            same.become(1, 0, 0, 0);
            fillLeads(same, asked.mass, leads[0]);
            fillNeeds(same);
            for (int q0 = 0; q0 <= MOST_NUMBER; q0++) {
                tried[0] = q0;
                if (triedRests(1)) {
                    return q0;
                }
            }
            return NONE;
        }

        int seekLook(Pay told) {
            int[] numbers = told.numbers;
            check.become(numbers[0], 0, numbers[2], numbers[3]);
            fillLeads(check, asked.mass, leads[0]);
            check.become(0, 1, numbers[2], numbers[3]);
            fillLeads(check, asked.mass, leads[1]);
            fillNeeds(check);
            tried[0] = 1;
            for (int q1 = 0; q1 <= HUNDRED; q1++) {
                tried[1] = q1;
                if (triedRests(2)) {
                    return q1;
                }
            }
            return NONE;
        }

        void seekTable() {
            for (int place = 0; place < NUMBERS; place++) {
                table.become(0, 0, 0, 0);
                table.numbers[place] = 1;
                fillLeads(table, asked.mass, leads[place]);
                prices[place] = togetherByTruth(table);
                tried[place] = 0;
                leastNumbers[place] = NONE;
            }
            fillNeeds(table);
            tablesResting = 0;
            for (int turn = 0; turn < TABLES; turn++) {
                if (triedRests(NUMBERS)) {
                    keepIfCheaper();
                }
                countOn();
            }
        }

        /** In how many of THE QUESTION and those near to it truth rests. */
        int countMayBe(Pay pay, int e) {
            fillNeeds(pay);
            int counted = truthRests(pay, asked.mass);
            for (int c = 0; c < asked.cases; c++) {
                for (int person = 0; person < asked.persons; person++) {
                    int now = asked.chances[c][person];
                    fillChangedMass(c, person, Math.max(0, now - e));
                    counted += truthRests(pay, changedMass);
                    fillChangedMass(c, person, Math.min(HUNDRED, now + e));
                    counted += truthRests(pay, changedMass);
                }
            }
            return counted;
        }

        private void fillChangedMass(int c, int person, int changed) {
            int now = asked.chances[c][person];
            asked.chances[c][person] = changed;
            asked.fillMass(changedMass);
            asked.chances[c][person] = now;
        }

        /** Whether truth rests (1, 0), if SIGNS are as likely as told; the needs are filled before. */
        private int truthRests(Pay pay, long[] mass) {
            tried[0] = 1;
            fillLeads(pay, mass, leads[0]);
            return triedRests(1) ? 1 : 0;
        }

        private void fillLeads(Pay pay, long[] mass, long[] filled) {
            for (int person = 0; person < asked.persons; person++) {
                long byTruth = Play.average(pay, asked, mass, TRUTH, person);
                for (int way = 1; way < WAYS; way++) {
                    long otherwise = Play.average(pay, asked, mass, way << (2 * person), person);
                    filled[person * OTHER_WAYS + way - 1] = byTruth - otherwise;
                }
            }
        }

        /** By how much truth must lead: by the COST, where the other WAY does not look. */
        private void fillNeeds(Pay pay) {
            long below = pay.unit() * asked.total;
            for (int person = 0; person < asked.persons; person++) {
                for (int way = 1; way < WAYS; way++) {
                    needs[person * OTHER_WAYS + way - 1] = way == 1 ? 0 : asked.costs[person] * below;
                }
            }
        }

        /** Whether truth rests, if the leads of the first parts count as often as tried tells. */
        private boolean triedRests(int parts) {
            int limit = asked.persons * OTHER_WAYS;
            for (int place = 0; place < limit; place++) {
                long lead = 0;
                for (int part = 0; part < parts; part++) {
                    lead += tried[part] * leads[part][place];
                }
                if (lead < needs[place]) {
                    return false;
                }
            }
            return true;
        }

        private long togetherByTruth(Pay pay) {
            long sum = 0;
            for (int person = 0; person < asked.persons; person++) {
                sum += Play.average(pay, asked, asked.mass, TRUTH, person);
            }
            return sum;
        }

        private void keepIfCheaper() {
            long price = 0;
            for (int place = 0; place < NUMBERS; place++) {
                price += tried[place] * prices[place];
            }
            if (tablesResting == 0 || price < leastPrice) {
                leastPrice = price;
                for (int place = 0; place < NUMBERS; place++) {
                    leastNumbers[place] = tried[place];
                }
            }
            tablesResting++;
        }

        /** The next TABLE in the order of q0, q1, q2, q3, so that of like ones the first is the least. */
        private void countOn() {
            for (int place = NUMBERS - 1; place >= 0; place--) {
                if (tried[place] < MOST_OF_TABLE) {
                    tried[place]++;
                    return;
                }
                tried[place] = 0;
            }
        }
    }

    /** The ROWS of answers and GUESSES. */
    private static final class Rows {
        private static final int ANSWER_BASE = 3;
        private static final int GUESS_BASE = 101;

        final int[] answers = new int[MOST_ROWS];
        /** GUESSES as they were told, NONE if they were not. */
        final long[] guesses = new long[MOST_ROWS];
        int size;

        static int answersLimit(int persons) {
            int limit = 1;
            for (int person = 0; person < persons; person++) {
                limit *= ANSWER_BASE;
            }
            return limit;
        }

        static long guessesLimit(int persons) {
            long limit = 1;
            for (int person = 0; person < persons; person++) {
                limit *= GUESS_BASE;
            }
            return limit;
        }

        void append(int toldAnswers, long toldGuesses) {
            if (size < MOST_ROWS) {
                answers[size] = toldAnswers;
                guesses[size] = toldGuesses;
                size++;
            }
        }

        int answeredByBoth(int i, int j) {
            int counted = 0;
            for (int row = 0; row < size; row++) {
                if (bothAnswered(row, i, j)) {
                    counted++;
                }
            }
            return counted;
        }

        int sameInOneRow(int i, int j) {
            int counted = 0;
            for (int row = 0; row < size; row++) {
                if (bothAnswered(row, i, j) && answerOf(row, i) == answerOf(row, j)) {
                    counted++;
                }
            }
            return counted;
        }

        /** How often i answered in one ROW what j answered in another one, where both answered. */
        int sameInTwoRows(int i, int j) {
            int counted = 0;
            for (int row = 0; row < size; row++) {
                if (bothAnswered(row, i, j)) {
                    counted += sameElsewhere(row, i, j);
                }
            }
            return counted;
        }

        int says(int row, int persons) {
            int ones = 0;
            int zeros = 0;
            for (int person = 0; person < persons; person++) {
                int answer = answerOf(row, person);
                ones += answer == 1 ? 1 : 0;
                zeros += answer == 0 ? 1 : 0;
            }
            return sideOf(ones, zeros);
        }

        int surprisedAt(int row, int persons) {
            if (guesses[row] == NONE) {
                return NONE;
            }
            // Both sums are divided by how many answered, so that the sums can be compared.
            int ones = 0;
            int guessed = 0;
            for (int person = 0; person < persons; person++) {
                int answer = answerOf(row, person);
                ones += answer == 1 ? 1 : 0;
                guessed += answer == NO_ANSWER ? 0 : guessOf(row, person);
            }
            return sideOf(HUNDRED * ones, guessed);
        }

        private static int sideOf(int forOne, int forZero) {
            if (forOne == forZero) {
                return NONE;
            }
            return forOne > forZero ? 1 : 0;
        }

        private int sameElsewhere(int row, int i, int j) {
            int counted = 0;
            for (int other = 0; other < size; other++) {
                boolean isPair = other != row && bothAnswered(other, i, j);
                if (isPair && answerOf(row, i) == answerOf(other, j)) {
                    counted++;
                }
            }
            return counted;
        }

        private boolean bothAnswered(int row, int i, int j) {
            return answerOf(row, i) != NO_ANSWER && answerOf(row, j) != NO_ANSWER;
        }

        private int answerOf(int row, int person) {
            int left = answers[row];
            for (int passed = 0; passed < person; passed++) {
                left /= ANSWER_BASE;
            }
            return left % ANSWER_BASE;
        }

        private int guessOf(int row, int person) {
            long left = guesses[row];
            for (int passed = 0; passed < person; passed++) {
                left /= GUESS_BASE;
            }
            return (int) (left % GUESS_BASE);
        }
    }
}
