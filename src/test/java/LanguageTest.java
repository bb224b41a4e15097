import java.io.IOException;
import java.lang.reflect.Constructor;
import java.lang.reflect.Field;
import java.lang.reflect.Method;
import java.lang.reflect.Modifier;
import java.nio.file.Files;
import java.nio.file.Path;
import java.util.ArrayList;
import java.util.List;
import java.util.Set;
import java.util.TreeSet;
import java.util.regex.Matcher;
import java.util.regex.Pattern;

/** The document's face, and the rules of LANGUAGE.md that a look at the text or the class can tell. */
public final class LanguageTest {
    private static final Path SOURCE = Path.of("src/main/java/NobodyChecks.java");
    private static final String[] FACE = {
        "int letters(long)", "int blank()", "int fault()", "int question()", "int chance(int,int)",
        "int cost(int,int)", "long thinks(int,int,int,int)", "int pay(int,int,int,int,int)", "int as(int,int)",
        "int about(int,int)", "int gets(int,int,int)", "long worth(int,int,int,int)", "int rests(int,int,int)",
        "long gain(int,int,int,int)", "int all(int,int)", "int group(int,int,int)", "int goes(int,int,int)",
        "int drawn(int)", "int leastSame()", "int leastTable(int)", "int leastLook(int)", "int mayBe(int,int)",
        "int row(int,long)", "int alike(int,int,int)", "int crowd(int,int)", "int count(int)", "long digest()"};

    public static void main(String[] args) throws IOException {
        face();
        classesInside();
        String text = Files.readString(SOURCE).replaceAll("(?s)/\\*.*?\\*/|//[^\n]*", "");
        words(text);
        methods(text);
        Due.end();
    }

    private static void holds(String rule, boolean held) {
        Due.due(rule, held ? 1 : 0, 1);
    }

    private static String shapeOf(Method m) {
        StringBuilder shape = new StringBuilder(m.getReturnType() + " " + m.getName() + "(");
        for (Class<?> type : m.getParameterTypes()) {
            shape.append(shape.charAt(shape.length() - 1) == '(' ? "" : ",").append(type);
        }
        return shape.append(")").toString();
    }

    private static void face() {
        Class<?> type = NobodyChecks.class;
        holds("public and final", type.getModifiers() == (Modifier.PUBLIC | Modifier.FINAL));
        Set<String> open = new TreeSet<>(), names = new TreeSet<>();
        for (Method m : type.getDeclaredMethods()) {
            if (!Modifier.isPrivate(m.getModifiers()) && !m.isSynthetic()) {
                holds(m + " is public and no more", m.getModifiers() == Modifier.PUBLIC);
                open.add(shapeOf(m));
                names.add(m.getName());
            }
        }
        holds("the methods of the document and no other: " + open, open.equals(new TreeSet<>(List.of(FACE))));
        for (Method m : type.getDeclaredMethods()) {
            holds(m + " has a name of its own", !Modifier.isPrivate(m.getModifiers()) || !names.contains(m.getName()));
        }
        int constants = 0;
        for (Field f : type.getDeclaredFields()) {
            if (!Modifier.isPrivate(f.getModifiers())) {
                constants++;
                holds(f + " is a constant", f.getModifiers() == (Modifier.PUBLIC | Modifier.STATIC | Modifier.FINAL));
            }
        }
        Due.due("constants", constants, 5);
        Constructor<?>[] constructors = type.getDeclaredConstructors();
        Due.due("constructors", constructors.length, 1);
        holds("a public one without parameters",
            constructors[0].getModifiers() == Modifier.PUBLIC && constructors[0].getParameterCount() == 0);
    }

    private static void classesInside() {
        List<Class<?>> types = new ArrayList<>(List.of(NobodyChecks.class.getDeclaredClasses()));
        types.add(NobodyChecks.class);
        holds("twelve classes at most", types.size() <= 12);
        for (Class<?> type : types) {
            holds(type + " is static", type == NobodyChecks.class || Modifier.isStatic(type.getModifiers()));
            holds(type + " is not public", type == NobodyChecks.class || !Modifier.isPublic(type.getModifiers()));
            Due.due(type + ": no classes inside", type == NobodyChecks.class ? 0 : type.getDeclaredClasses().length, 0);
            int fields = 0;
            for (Field f : type.getDeclaredFields()) {
                boolean isStatic = Modifier.isStatic(f.getModifiers());
                holds(f + ": static fields are final", !isStatic || Modifier.isFinal(f.getModifiers()));
                fields += isStatic ? 0 : 1;
            }
            holds(type + ": twenty fields at most", fields <= 20);
            for (Method m : type.getDeclaredMethods()) {
                holds(m + ": seven parameters at most", m.getParameterCount() <= 7);
            }
        }
    }

    private static void words(String text) {
        String[] never = {"throw", "throws", "try", "catch", "finally", "synchronized", "assert", "import", "package",
            "float", "double", "Object", "System", "hashCode", "toString", "Exception", "volatile", "native", "do"};
        for (String word : never) {
            holds("no " + word, !Pattern.compile("\\b" + word + "\\b").matcher(text).find());
        }
        holds("no lambda", !text.contains("->"));
        holds("no method reference", !text.contains("::"));
        holds("no annotation", !text.contains("@"));
        holds("no loop without a condition", !text.contains("while (true)") && !text.contains("for (;;)"));
        for (int k = 0; k < text.length(); k++) {
            if (text.charAt(k) > 126) {
                holds("plain letters alone, at " + k, false);
            }
        }
    }

    /** A method ends at the first line that closes a brace as deep as its own line stands. */
    private static void methods(String text) {
        String[] lines = text.split("\n");
        Pattern head = Pattern.compile("^( {4}| {8})\\S.*\\) \\{$");
        for (int k = 0; k < lines.length; k++) {
            Matcher m = head.matcher(lines[k]);
            if (m.matches()) {
                int end = k;
                while (end < lines.length && !lines[end].equals(m.group(1) + "}")) {
                    end++;
                }
                holds("sixty lines at most: " + lines[k].trim(), end - k < 60);
            }
        }
    }
}
