import java.util.ArrayList;
import java.util.List;
import java.util.function.Consumer;

/**
 * "Refusals, of several the first as told by each call ..; they change nothing." For each call the
 * refusals stand in the order in which the document tells them, each with all that may be wrong; then every
 * choice of one wrong thing, or none, for each refusal is tried: the first one answers, and all stays as it was.
 */
public final class RefusalsTest {
    private static final int NONE = NobodyChecks.NONE, UNKNOWN = NobodyChecks.UNKNOWN,
        OUTSIDE = NobodyChecks.OUTSIDE, STATE = NobodyChecks.STATE, FULL = NobodyChecks.FULL;
    private static final long WORTH_UNKNOWN = -2000000000000000001L, WORTH_OUTSIDE = -2000000000000000002L;
    private static final int ALIKE_UNKNOWN = -1000001, ALIKE_OUTSIDE = -1000002;

    private static final int CASES = 2, PAYS = 5, ROWS = 3;

    public static void main(String[] args) {
        for (int persons = 2; persons <= 4; persons++) {
            question(persons);
            pays(persons);
            worths(persons);
            atRest(persons);
            cheapest(persons);
            rows(persons);
        }
        Due.end();
    }

    /** An object before a call, and the numbers that the call is given. */
    private static final class Scene {
        final int persons;
        final long[] args;
        boolean asked = true, paysFull, rowsFull, tablesFull;
        String page = "1:5,6";

        Scene(int persons, long[] args) {
            this.persons = persons;
            this.args = args.clone();
        }

        NobodyChecks made() {
            NobodyChecks x = asked ? Due.asked(Edge.oneCase(7, 80, persons) + ";" + Edge.oneCase(3, 15, persons))
                : new NobodyChecks();
            for (int pay = 0; pay < (paysFull ? 8 : PAYS); pay++) {
                x.pay(pay % 5, 9, 8, 7, 60);
            }
            for (int row = 0; asked && row < (rowsFull ? 24 : ROWS); row++) {
                x.row(row % 9, row % 2 == 0 ? NONE : 77);
            }
            for (int done = 0; asked && done < (tablesFull ? 10 : 1); done++) {
                x.leastTable(0);
            }
            for (int person = 0; person < x.count(1); person++) {
                x.cost(person, person);
            }
            Due.write(x, page);
            return x;
        }
    }

    private interface Call {
        long on(NobodyChecks x, long[] a);
    }

    private record Wrong(String name, Consumer<Scene> does) {
    }

    private record Refusal(long answer, List<Wrong> wrongs) {
    }

    /** The refusals of one call, the first one first. */
    private static final class Ladder {
        final String name;
        final int persons;
        final Call call;
        final long[] good;
        final List<Refusal> refusals = new ArrayList<>();

        Ladder(String name, int persons, Call call, long... good) {
            this.name = name;
            this.persons = persons;
            this.call = call;
            this.good = good;
        }

        @SafeVarargs
        final Ladder then(long answer, List<Wrong>... wrongs) {
            List<Wrong> all = new ArrayList<>();
            for (List<Wrong> some : wrongs) {
                all.addAll(some);
            }
            refusals.add(new Refusal(answer, all));
            return this;
        }

        /** Good numbers are not refused, and every choice of wrong ones is, by the first. */
        void hold() {
            Edge.says("Refusals, of several the first as told by each call: " + name);
            Scene scene = new Scene(persons, good);
            long answer = call.on(scene.made(), scene.args);
            Edge.due("of " + persons + ", nothing wrong, refused", answer < NONE ? 1 : 0, 0);
            choose(0, new ArrayList<>(), 0);
        }

        private void choose(int at, List<Wrong> chosen, long first) {
            if (at == refusals.size()) {
                if (!chosen.isEmpty()) {
                    tryOut(chosen, first);
                }
                return;
            }
            choose(at + 1, chosen, first);
            for (Wrong wrong : refusals.get(at).wrongs()) {
                List<Wrong> more = new ArrayList<>(chosen);
                more.add(wrong);
                choose(at + 1, more, chosen.isEmpty() ? refusals.get(at).answer() : first);
            }
        }

        private void tryOut(List<Wrong> chosen, long first) {
            Scene scene = new Scene(persons, good);
            StringBuilder names = new StringBuilder("of " + persons + ":");
            // Where two of them set one number, that of the first refusal stands.
            for (int k = chosen.size() - 1; k >= 0; k--) {
                chosen.get(k).does().accept(scene);
                names.append(' ').append(chosen.get(k).name());
            }
            Edge.refused(scene.made(), names.toString(), x -> call.on(x, scene.args), first);
        }
    }

    // ---- what may be wrong

    private static List<Wrong> is(int place, long... values) {
        List<Wrong> wrongs = new ArrayList<>();
        for (long value : values) {
            wrongs.add(new Wrong("number " + place + " is " + value, scene -> scene.args[place] = value));
        }
        return wrongs;
    }

    /** The number at the place is one beyond what it may be, or far beyond. */
    private static List<Wrong> beyond(int place, long least, long most) {
        return is(place, least - 1, most + 1, Integer.MIN_VALUE, Integer.MAX_VALUE);
    }

    private static List<Wrong> same(int place, int other) {
        return List.of(new Wrong("the same", scene -> scene.args[place] = scene.args[other]));
    }

    private static List<Wrong> noQuestion() {
        return List.of(new Wrong("no QUESTION", scene -> scene.asked = false));
    }

    private static List<Wrong> noPay(int place) {
        return beyond(place, 0, PAYS - 1);
    }

    private static List<Wrong> noPerson(int place, int persons) {
        List<Wrong> wrongs = new ArrayList<>(beyond(place, 0, persons - 1));
        wrongs.addAll(noQuestion());
        return wrongs;
    }

    // ---- the calls, with the refusals in the document's order

    private static void question(int n) {
        List<Wrong> full = new ArrayList<>();
        for (int more = 1; more <= 8; more++) {
            long w = Due.packed(Edge.many("1", "", more), 0);
            int had = 91 - more;
            full.add(new Wrong(more + " letters behind " + had, scene -> {
                scene.page = Edge.many("1", "", had);
                scene.args[0] = w;
            }));
        }
        new Ladder("letters", n, (x, a) -> x.letters(a[0]), '1')
            .then(OUTSIDE, is(0, 127, 255, 256, -1, Long.MIN_VALUE, Long.MAX_VALUE, 1L << 56, '1' | '1' << 16))
            .then(FULL, full).hold();
        List<Wrong> none = new ArrayList<>();
        for (String page : new String[] {"", "1", "1:5", "1:5,6;", "1:5,6,", "1:5,6x", Edge.many("1", "", 90)}) {
            none.add(new Wrong("the page " + page, scene -> scene.page = page));
        }
        new Ladder("question", n, (x, a) -> x.question())
            .then(STATE, none).hold();
        new Ladder("chance", n, (x, a) -> x.chance((int) a[0], (int) a[1]), CASES - 1, n - 1)
            .then(UNKNOWN, beyond(0, 0, CASES - 1), beyond(1, NONE, n - 1), noQuestion()).hold();
        new Ladder("cost", n, (x, a) -> x.cost((int) a[0], (int) a[1]), n - 1, 999)
            .then(UNKNOWN, noPerson(0, n))
            .then(OUTSIDE, beyond(1, 0, 999)).hold();
        new Ladder("thinks", n, (x, a) -> x.thinks((int) a[0], (int) a[1], (int) a[2], (int) a[3]), 0, 1, n - 1, 1)
            .then(UNKNOWN, noPerson(0, n), beyond(2, 0, n - 1), same(0, 2), same(2, 0))
            .then(OUTSIDE, beyond(1, 0, 1), beyond(3, 0, 1)).hold();
        new Ladder("count", n, (x, a) -> x.count((int) a[0]), 5)
            .then(OUTSIDE, beyond(0, 0, 5)).hold();
    }

    private static void pays(int n) {
        for (int kind = 0; kind <= 4; kind++) {
            int mostShare = kind == 4 ? 100 : 999;
            new Ladder("pay of kind " + kind, n,
                (x, a) -> x.pay((int) a[0], (int) a[1], (int) a[2], (int) a[3], (int) a[4]), kind, 999, mostShare, 999, mostShare)
                .then(OUTSIDE, beyond(0, 0, 4), beyond(1, 0, 999), beyond(2, 0, mostShare), beyond(3, 0, 999),
                    beyond(4, 0, mostShare))
                .then(FULL, List.of(new Wrong("full", scene -> scene.paysFull = true))).hold();
        }
        new Ladder("as", n, (x, a) -> x.as((int) a[0], (int) a[1]), PAYS - 1, 4)
            .then(UNKNOWN, noPay(0))
            .then(OUTSIDE, beyond(1, 0, 4)).hold();
        new Ladder("about", n, (x, a) -> x.about((int) a[0], (int) a[1]), PAYS - 1, 4)
            .then(UNKNOWN, noPay(0))
            .then(OUTSIDE, beyond(1, 0, 4)).hold();
    }

    private static void worths(int n) {
        int profiles = Edge.power(4, n);
        new Ladder("gets", n, (x, a) -> x.gets((int) a[0], (int) a[1], (int) a[2]), 0, n - 1, (1 << n) - 1)
            .then(UNKNOWN, noPay(0), noPerson(1, n))
            .then(OUTSIDE, beyond(2, 0, (1 << n) - 1)).hold();
        new Ladder("worth", n, (x, a) -> x.worth((int) a[0], (int) a[1], (int) a[2], (int) a[3]), 0, profiles - 1, n - 1, 1)
            .then(WORTH_UNKNOWN, noPay(0), noPerson(2, n))
            .then(WORTH_OUTSIDE, beyond(1, 0, profiles - 1), beyond(3, 0, 1)).hold();
        new Ladder("gain", n, (x, a) -> x.gain((int) a[0], (int) a[1], (int) a[2], (int) a[3]), 0, profiles - 1, n - 1, 1)
            .then(UNKNOWN, noPay(0), noPerson(2, n))
            .then(OUTSIDE, beyond(1, 0, profiles - 1), beyond(3, 0, 1)).hold();
    }

    private static void atRest(int n) {
        int profiles = Edge.power(4, n);
        new Ladder("rests", n, (x, a) -> x.rests((int) a[0], (int) a[1], (int) a[2]), 0, profiles - 1, 2)
            .then(UNKNOWN, noPay(0))
            .then(STATE, noQuestion())
            .then(OUTSIDE, beyond(1, 0, profiles - 1), beyond(2, 0, 2)).hold();
        new Ladder("all", n, (x, a) -> x.all((int) a[0], (int) a[1]), 0, 99)
            .then(UNKNOWN, noPay(0))
            .then(STATE, noQuestion())
            .then(OUTSIDE, beyond(1, 0, 1), beyond(1, 10, 99)).hold();
        new Ladder("group", n, (x, a) -> x.group((int) a[0], (int) a[1], (int) a[2]), 0, profiles - 1, 1)
            .then(UNKNOWN, noPay(0))
            .then(STATE, noQuestion())
            .then(OUTSIDE, beyond(1, 0, profiles - 1), beyond(2, 0, 1)).hold();
        new Ladder("goes", n, (x, a) -> x.goes((int) a[0], (int) a[1], (int) a[2]), 0, profiles - 1, 2)
            .then(UNKNOWN, noPay(0))
            .then(STATE, noQuestion())
            .then(OUTSIDE, beyond(1, 0, profiles - 1), beyond(2, 0, 2)).hold();
        new Ladder("drawn", n, (x, a) -> x.drawn((int) a[0]), PAYS - 1)
            .then(UNKNOWN, noPay(0))
            .then(STATE, noQuestion()).hold();
    }

    private static void cheapest(int n) {
        new Ladder("leastSame", n, (x, a) -> x.leastSame())
            .then(STATE, noQuestion()).hold();
        new Ladder("leastTable", n, (x, a) -> x.leastTable((int) a[0]), 4)
            .then(STATE, noQuestion())
            .then(OUTSIDE, beyond(0, 0, 4))
            .then(STATE, List.of(new Wrong("done", scene -> scene.tablesFull = true))).hold();
        new Ladder("leastLook", n, (x, a) -> x.leastLook((int) a[0]), 4)
            .then(UNKNOWN, noPay(0))
            .then(STATE, noQuestion(), is(0, 0, 1, 2, 3)).hold();
        new Ladder("mayBe", n, (x, a) -> x.mayBe((int) a[0], (int) a[1]), PAYS - 1, 100)
            .then(UNKNOWN, noPay(0))
            .then(STATE, noQuestion())
            .then(OUTSIDE, beyond(1, 0, 100)).hold();
    }

    private static void rows(int n) {
        long guesses = 1;
        for (int person = 0; person < n; person++) {
            guesses *= 101;
        }
        new Ladder("row", n, (x, a) -> x.row((int) a[0], a[1]), Edge.power(3, n) - 1, guesses - 1)
            .then(STATE, noQuestion())
            .then(OUTSIDE, beyond(0, 0, Edge.power(3, n) - 1), beyond(1, NONE, guesses - 1),
                is(1, Long.MIN_VALUE, Long.MAX_VALUE, 1L << 32))
            .then(FULL, List.of(new Wrong("full", scene -> scene.rowsFull = true))).hold();
        new Ladder("alike", n, (x, a) -> x.alike((int) a[0], (int) a[1], (int) a[2]), 0, n - 1, 3)
            .then(ALIKE_UNKNOWN, noPerson(0, n), beyond(1, 0, n - 1), same(0, 1), same(1, 0))
            .then(ALIKE_OUTSIDE, beyond(2, 0, 3)).hold();
        new Ladder("crowd", n, (x, a) -> x.crowd((int) a[0], (int) a[1]), ROWS - 1, 1)
            .then(UNKNOWN, beyond(0, 0, ROWS - 1), noQuestion())
            .then(OUTSIDE, beyond(1, 0, 1)).hold();
    }
}
