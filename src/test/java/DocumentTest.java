import java.io.IOException;
import java.lang.reflect.Method;
import java.lang.reflect.Modifier;
import java.util.Set;
import java.util.TreeSet;
import java.util.regex.Matcher;
import java.util.regex.Pattern;

/**
 * The document from its first line, sentence by sentence: each is quoted, and behind it stand the answers
 * that hold it. Document sees that none is left out.
 */
public final class DocumentTest {
    public static void main(String[] args) throws IOException, ReflectiveOperationException {
        Document.open();
        opening();
        calls512();
        face();
        TermsOfPays.hold();
        TermsOfRest.hold();
        TermsOfCheapest.hold();
        TermsOfRows.hold();
        aheadOfCalls();
        PromisesOfPays.hold();
        PromisesOfRest.hold();
        PromisesOfTold.hold();
        Document.end("## Not promised");
        Due.end();
    }

    /** Two who see what is so, a SAME of 10, a COST of 4; truth is WORTH 6, to answer 0 with the other one 10. */
    private static void opening() {
        Document.heads("# NobodyChecks ## What it is");
        NobodyChecks x = new NobodyChecks();
        Document.says("Nobody can check: what may be so with weights, what each one sees how likely under each, told as a text;");
        Due.write(x, "3:100,100;3:0,0");
        Document.due("question()", x.question(), 2);
        Document.due("a weight", x.chance(1, NobodyChecks.NONE), 3);
        Document.due("how likely", x.chance(0, 1), 100);
        Document.says("pays of kinds for answers held against answers;");
        Document.due("pay", x.pay(1, 10, 0, 0, 0), 0);
        Document.due("of a kind", x.about(0, 4), 1);
        Document.due("answers alike", x.gets(0, 0, 3), 10);
        Document.due("answers unlike", x.gets(0, 0, 1), 0);
        Document.says("what one who saw a sign thinks another one saw, what each way of answering is worth, exactly;");
        Document.due("thinks", x.thinks(0, 1, 1, 0), 1);
        Document.due("thinks", x.thinks(0, 0, 1, 0), 0);
        x.cost(0, 4);
        x.cost(1, 4);
        for (int way = 0; way < 4; way++) {
            Document.due("way " + way, x.worth(0, way, 0, 0), new int[] {6, -4, 5, 5}[way]);
        }
        Document.says("whether all rest at theirs, who is the first that does not, all ways at rest, those that pay more than truth;");
        Document.due("all rest", x.rests(0, 0, 0), 1);
        Document.due("the first that does not", x.rests(0, 4, 1), 0);
        Document.due("all at rest", x.all(0, 0), 4);
        Document.due("more than truth", x.all(0, 1), 2);
        Document.says("the smallest group that gains together;");
        Document.due("both", x.group(0, 0, 0), 3);
        Document.says("where it goes if each in turn does what is best;");
        Document.due("from 8", x.goes(0, 8, 0), 10);
        Document.says("the cheapest pays under which truth rests, how often one must look oneself;");
        Document.due("SAME", x.leastSame(), 8);
        Document.due("TABLE", x.leastTable(3), 8);
        Document.due("look", x.leastLook(x.pay(4, 0, 0, 20, 100)), 40);
        Document.says("rows of answers, alike beyond luck, what a crowd says and what it is surprised at.");
        Document.due("row", x.row(4, 0), 1);
        Document.due("row", x.row(0, NobodyChecks.NONE), 2);
        Document.due("alike beyond luck", x.alike(0, 1, 2), 1);
        Document.due("crowd", x.crowd(0, 0), 1);
        Document.due("surprised", x.crowd(0, 1), 1);
        Document.says("======== 1 THE QUESTION is a text:");
        Due.write(x, "no text of a question");
        Document.due("not any text is one", x.question(), NobodyChecks.STATE);
    }

    private static void calls512() {
        Document.says("An object is used for at most 512 calls after it has been made; what later calls answer is free.");
        NobodyChecks x = new NobodyChecks();
        for (int call = 1; call <= 512; call++) {
            Document.due("call " + call, call % 2 == 1 ? x.letters('1') : x.blank(), 1);
        }
        NobodyChecks y = Due.asked("1:100,100");
        for (int call = 4; call <= 511; call++) {
            y.digest();
        }
        Document.due("the 512th", y.question(), NobodyChecks.STATE);
    }

    /** The methods and constants that the document's own Java tells, against those of the class. */
    private static void face() throws ReflectiveOperationException {
        Document.heads("## The public face");
        String told = Document.takeUntil("public long digest(); }");
        if (told.isEmpty()) {
            return;
        }
        Class<?> type = NobodyChecks.class;
        Document.holds("public final class", type.getModifiers() == (Modifier.PUBLIC | Modifier.FINAL));
        Document.due("public NobodyChecks()", type.getConstructor().getModifiers(), Modifier.PUBLIC);
        Matcher constant = Pattern.compile("([A-Z]+) = (-\\d+)").matcher(told);
        int constants = 0;
        while (constant.find()) {
            Document.due(constant.group(1), type.getField(constant.group(1)).getInt(null), Long.parseLong(constant.group(2)));
            constants++;
        }
        Document.due("public constants", type.getFields().length, constants);
        Set<String> methods = new TreeSet<>(), due = new TreeSet<>();
        for (Method m : type.getDeclaredMethods()) {
            if (Modifier.isPublic(m.getModifiers())) {
                methods.add(shapeOf(m));
            }
        }
        Matcher method = Pattern.compile("public (int|long) (\\w+)\\(([^)]*)\\);").matcher(told);
        while (method.find()) {
            due.add(method.group(1) + " " + method.group(2) + "(" + method.group(3).replaceAll(" \\w+(?=,|$)", "") + ")");
        }
        Document.due("methods told", due.size(), 27);
        Document.holds("public methods: " + methods + " against " + due, methods.equals(due));
    }

    private static String shapeOf(Method m) {
        StringBuilder types = new StringBuilder();
        for (Class<?> type : m.getParameterTypes()) {
            types.append(types.length() == 0 ? "" : ", ").append(type);
        }
        return m.getReturnType() + " " + m.getName() + "(" + types + ")";
    }

    private static void aheadOfCalls() {
        Document.heads("Ahead of the calls `letters`, `blank`, `fault`, `question`, `chance`, `cost`, `thinks` "
            + "the interface says: ---- the question.");
        Document.heads("Ahead of the calls `pay`, `as`, `about`, `gets`, `worth` the interface says: ---- pays.");
        Document.says("Ahead of the calls `rests`, `gain`, `all`, `group`, `goes`, `drawn` the interface says: "
            + "---- at rest (UNKNOWN: pay; STATE: there is no QUESTION; OUTSIDE: profile, what).");
        PromisesOfRest.refusals();
        Document.heads("Ahead of the calls `leastSame`, `leastTable`, `leastLook`, `mayBe` the interface says: "
            + "---- the cheapest.");
        Document.heads("Ahead of the calls `row`, `alike`, `crowd` the interface says: ---- rows.");
        Document.heads("Ahead of the calls `count`, `digest` the interface says: ---- what is told.");
    }
}
