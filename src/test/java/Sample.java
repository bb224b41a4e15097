import java.util.HashMap;
import java.util.Map;

/** A QUESTION with COSTS and PAYS of all KINDS, by which sentences about any of them are held. */
final class Sample {
    /** An object serves 512 calls. */
    private static final int USES = 400;

    private static final int[][] PAYS = {
        {0, 7, 0, 0, 0}, {1, 10, 0, 0, 0}, {2, 6, 0, 1, 9}, {3, 3, 1, 5, 4},
        {4, 4, 20, 30, 90}, {2, 0, 8, 9, 2}, {4, 0, 100, 9, 10}, {3, 0, 9, 8, 2}};

    static final Sample[] ALL = {
        new Sample("1:100,100;1:0,0", 4, 4),
        new Sample("3:80,50;1:20,0", 1, 0),
        new Sample("1:90,80;2:60,61;3:10,100;4:0,30;5:50,7", 0, 0),
        new Sample("7:80,70,90;3:20,40,10", 2, 0, 1),
        new Sample("2:90,80,85;1:10,15,20", 0, 0, 0),
        new Sample("99:100,0,50;1:0,100,50", 0, 3, 0),
        new Sample("5:90,80,70,60;4:10,20,30,40;1:50,50,0,100", 0, 1, 2, 3),
        new Sample("1:95,95,95,95;1:5,5,5,5", 1, 1, 1, 1)};

    final String text;
    final int persons;
    private final int[] costs;
    private final Map<Integer, Plain.Part> worths = new HashMap<>();
    private NobodyChecks object;
    private int uses = USES;

    private Sample(String text, int... costs) {
        this.text = text;
        this.costs = costs;
        this.persons = costs.length;
    }

    /** THE QUESTION with the COSTS, and no PAYS. */
    NobodyChecks withoutPays(String question) {
        NobodyChecks x = Due.asked(question);
        for (int person = 0; person < persons; person++) {
            x.cost(person, costs[person]);
        }
        return x;
    }

    /** Whether truth rests (1, 0) under a PAY that is told to a new object with such a QUESTION. */
    int truthRests(String question, int kind, int... q) {
        NobodyChecks x = withoutPays(question);
        return x.rests(x.pay(kind, q[0], q[1], q[2], q[3]), 0, 0);
    }

    /** The object, for one call. */
    NobodyChecks x() {
        if (uses >= USES) {
            object = withoutPays(text);
            for (int[] pay : PAYS) {
                object.pay(pay[0], pay[1], pay[2], pay[3], pay[4]);
            }
            uses = 0;
        }
        uses++;
        return object;
    }

    int pays() {
        return PAYS.length;
    }

    int numberOf(int pay, int place) {
        return PAYS[pay][1 + place];
    }

    int kindOf(int pay) {
        return PAYS[pay][0];
    }

    int cost(int person) {
        return costs[person];
    }

    int profiles() {
        return Edge.power(4, persons);
    }

    static int wayOf(int profile, int person) {
        return profile / Edge.power(4, person) % 4;
    }

    static int withWay(int profile, int person, int way) {
        return profile + (way - wayOf(profile, person)) * Edge.power(4, person);
    }

    /** WORTH as the class tells it. */
    Plain.Part worth(int pay, int profile, int person) {
        int key = (pay * 256 + profile) * 4 + person;
        Plain.Part known = worths.get(key);
        if (known == null) {
            known = Plain.Part.of(x().worth(pay, profile, person, 0), x().worth(pay, profile, person, 1));
            worths.put(key, known);
        }
        return known;
    }

    Plain.Part together(int pay, int profile) {
        Plain.Part sum = Plain.Part.of(0, 1);
        for (int person = 0; person < persons; person++) {
            sum = sum.plus(worth(pay, profile, person));
        }
        return sum;
    }

    /** Whether a PERSON is WORTH more by the one PROFILE than by the other one. */
    boolean isMore(int pay, int person, int profile, int than) {
        return worth(pay, profile, person).isMoreThan(worth(pay, than, person));
    }

    boolean personRests(int pay, int profile, int person) {
        for (int way = 0; way < 4; way++) {
            if (isMore(pay, person, withWay(profile, person, way), profile)) {
                return false;
            }
        }
        return true;
    }

    /** The least PERSON that does not rest, or NONE. */
    int first(int pay, int profile) {
        for (int person = 0; person < persons; person++) {
            if (!personRests(pay, profile, person)) {
                return person;
            }
        }
        return NobodyChecks.NONE;
    }

    /** The least WAY of a PERSON beside which none is WORTH more. */
    int best(int pay, int profile, int person) {
        for (int way = 0; way < 4; way++) {
            if (personRests(pay, withWay(profile, person, way), person)) {
                return way;
            }
        }
        return NobodyChecks.NONE;
    }

    String name(int pay) {
        return text + ", PAY " + pay;
    }
}
