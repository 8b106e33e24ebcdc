import java.lang.reflect.Constructor;
import java.lang.reflect.Field;
import java.lang.reflect.Method;
import java.lang.reflect.Modifier;
import java.nio.file.Files;
import java.nio.file.Path;
import java.util.ArrayList;
import java.util.List;
import java.util.Set;
import java.util.TreeSet;
import java.util.regex.Matcher;
import java.util.regex.Pattern;

/** The rules of LANGUAGE.md, so far as they can be seen from the compiled class and from its text; run from the project's folder. */
public final class LanguageTest {
    private static final Path SOURCE = Path.of("src/main/java/AwakeTurns.java");
    private static final String[] FACE = {
        "int ship(int,int,int,int)", "int ofSleeper(int,int)", "int up(int,int,boolean)", "int wants(int,int)", "int law(int)",
        "int note(int,int)", "int tear(int)", "int awake(int)", "int harm(int,int)", "int skills(int,int)", "int lacks(int)",
        "int wrong(int)", "int cover(int)", "int least(int)", "int judge(int,int,int,int)", "int trades(int)",
        "int knows(int,int,int)", "int kept(int,int)", "int reading(int,int,boolean)", "int back(int)", "int began(int)",
        "int woken(int,int,int)", "long odds(int,int)", "int sheet(int,int,int)", "int lose(int)", "int put(int,int,int)",
        "long cell(int,int,int)", "int copy(int,int,int,int,int)", "int tell(int)", "int greet(int)", "int as(int,int)",
        "int trace()", "int fault()", "int many(int)"};
    private static final String[] FORBIDDEN_WORDS = {"throw", "throws", "try", "catch", "synchronized", "assert", "package",
        "protected", "volatile", "native", "transient", "strictfp", "var", "hashCode", "toString", "Object", "Random", "Thread",
        "\\w*Exact", "\\w*Exception", "currentTimeMillis", "nanoTime"};
    private static final String[] FORBIDDEN_SIGNS = {"->", "::", "static \\{"};
    private static final Due due = new Due();

    private LanguageTest() {
    }

    public static void main(String[] args) throws Exception {
        face();
        constants();
        classesInside();
        text(Files.readString(SOURCE));
        due.end();
    }

    private static String told(Method m) {
        List<String> types = new ArrayList<>();
        for (Class<?> type : m.getParameterTypes()) {
            types.add(type.getName());
        }
        return m.getReturnType().getName() + " " + m.getName() + "(" + String.join(",", types) + ")";
    }

    private static void face() {
        Set<String> publics = new TreeSet<>();
        Set<String> names = new TreeSet<>();
        for (Method m : AwakeTurns.class.getDeclaredMethods()) {
            if (!Modifier.isPrivate(m.getModifiers())) {
                publics.add(told(m));
                names.add(m.getName());
                due.holds("rule 1: public, of an object: " + m, m.getModifiers() == Modifier.PUBLIC);
            }
        }
        due.holds("rule 1: the face is that of the document: " + publics, publics.equals(new TreeSet<>(List.of(FACE))));
        List<Class<?>> all = new ArrayList<>(List.of(AwakeTurns.class.getDeclaredClasses()));
        all.add(AwakeTurns.class);
        for (Class<?> c : all) {
            for (Method m : c.getDeclaredMethods()) {
                due.holds("rule 11: parameters of " + m, m.getParameterCount() <= 7);
                due.holds("rule 1: the name of " + m, Modifier.isPublic(m.getModifiers()) || !names.contains(m.getName()));
            }
        }
        due.holds("rule 1: public and final", AwakeTurns.class.getModifiers() == (Modifier.PUBLIC | Modifier.FINAL));
        Constructor<?>[] made = AwakeTurns.class.getDeclaredConstructors();
        due.holds("rule 1: one public constructor", made.length == 1 && Modifier.isPublic(made[0].getModifiers()));
    }

    private static void constants() {
        Set<String> publics = new TreeSet<>();
        for (Field f : AwakeTurns.class.getDeclaredFields()) {
            if (!Modifier.isPrivate(f.getModifiers())) {
                publics.add(f.getType().getName() + " " + f.getName());
            }
        }
        Set<String> want = Set.of("int UNKNOWN", "int OUTSIDE", "int STATE", "int FULL", "int NONE", "long LOST");
        due.holds("rule 1: the constants are those of the document: " + publics, publics.equals(new TreeSet<>(want)));
        due.is("UNKNOWN", AwakeTurns.UNKNOWN, -1);
        due.is("OUTSIDE", AwakeTurns.OUTSIDE, -2);
        due.is("STATE", AwakeTurns.STATE, -3);
        due.is("FULL", AwakeTurns.FULL, -4);
        due.is("NONE", AwakeTurns.NONE, -9);
        due.is("LOST", AwakeTurns.LOST, Long.MIN_VALUE);
    }

    private static void classesInside() {
        Class<?>[] inside = AwakeTurns.class.getDeclaredClasses();
        due.holds("rule 11: some twelve classes", inside.length + 1 <= 12);
        for (Class<?> c : inside) {
            due.holds("rule 2: static and not public: " + c, Modifier.isStatic(c.getModifiers()) && !Modifier.isPublic(c.getModifiers()));
            due.holds("rule 2: none inside " + c, c.getDeclaredClasses().length == 0);
            fields(c);
        }
        fields(AwakeTurns.class);
    }

    private static void fields(Class<?> c) {
        int own = 0;
        for (Field f : c.getDeclaredFields()) {
            boolean isStatic = Modifier.isStatic(f.getModifiers());
            own += isStatic ? 0 : 1;
            due.holds("rule 5: final: " + f, !isStatic || Modifier.isFinal(f.getModifiers()));
        }
        due.holds("rule 11: some twenty fields: " + c, own <= 20);
    }

    private static void text(String source) {
        String code = source.replaceAll("(?s)/\\*.*?\\*/", "").replaceAll("//[^\n]*", "").replaceAll("'.'", "' '");
        for (String word : FORBIDDEN_WORDS) {
            due.holds("rules 3, 4, 6, 13: no " + word, !Pattern.compile("\\b" + word + "\\b").matcher(code).find());
        }
        for (String sign : FORBIDDEN_SIGNS) {
            due.holds("rules 2, 5: no " + sign, !Pattern.compile(sign).matcher(code).find());
        }
        for (char c : source.toCharArray()) {
            if (c > 126) {
                due.holds("rule 3: signs of 1 to 127", false);
            }
        }
        imports(code);
        methodsAreShort(source);
    }

    private static void imports(String code) {
        Matcher m = Pattern.compile("import ([^;]*);").matcher(code);
        while (m.find()) {
            due.holds("rule 4: import of " + m.group(1), Set.of("java.util.Arrays").contains(m.group(1)));
        }
        Matcher call = Pattern.compile("\\b(System|Arrays|Integer|Long|Math)\\.(\\w+)").matcher(code);
        Set<String> listed = Set.of("System.arraycopy", "Arrays.fill", "Integer.bitCount", "Math.min", "Long.MIN_VALUE");
        while (call.find()) {
            due.holds("rule 4: " + call.group(), listed.contains(call.group()));
        }
    }

    /** A method's first line and its last stand at the same depth. */
    private static void methodsAreShort(String source) {
        String[] lines = source.split("\n");
        for (int from = 0; from < lines.length; from++) {
            Matcher m = Pattern.compile("^( {4}| {8})(?!private static (final )?class)\\S.*\\) \\{$").matcher(lines[from]);
            if (m.find()) {
                int to = from;
                while (to < lines.length && !lines[to].equals(m.group(1) + "}")) {
                    to++;
                }
                due.holds("rule 11: some sixty lines: " + lines[from].trim(), to - from <= 60);
            }
        }
    }
}
