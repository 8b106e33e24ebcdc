import java.io.ByteArrayOutputStream;
import java.io.OutputStream;
import java.io.PrintStream;
import java.lang.reflect.Method;
import java.net.URI;
import java.nio.file.Files;
import java.nio.file.Path;
import java.util.ArrayList;
import java.util.HashMap;
import java.util.List;
import java.util.Map;
import java.util.concurrent.ExecutorService;
import java.util.concurrent.Executors;
import java.util.concurrent.TimeUnit;
import java.util.concurrent.atomic.AtomicInteger;
import java.util.regex.Matcher;
import java.util.regex.Pattern;
import javax.tools.FileObject;
import javax.tools.ForwardingJavaFileManager;
import javax.tools.JavaCompiler;
import javax.tools.JavaFileManager;
import javax.tools.JavaFileObject;
import javax.tools.SimpleJavaFileObject;
import javax.tools.StandardJavaFileManager;
import javax.tools.ToolProvider;

/**
 * Breaks the class in one place at a time, and tells which of these breaks EdgesTest does not see: each is either no
 * break at all (the class answers as before) or a sentence without a test. Not a part of .ci/run, since only a reader can
 * tell these two apart. README.md says how to run it.
 */
public final class Mutants {
    private static final Path SOURCE = Path.of("src/main/java/AwakeTurns.java");
    private static final int SECONDS = 20;
    private static final String[][] CHANGES = {
        {" < ", " <= ", " >= "}, {" <= ", " < ", " > "}, {" > ", " >= ", " <= "}, {" >= ", " > ", " < "}, {" == ", " != "},
        {" != ", " == "}, {" && ", " || "}, {" \\|\\| ", " && "}, {" \\+ ", " - "}, {" - ", " + "}, {" \\* ", " + "},
        {" & ", " | "}, {" \\| ", " & "}, {"~", ""}, {"!(?!=)", ""}, {" << ", " >> "}, {" \\|= ", " = ", " &= "},
        {" \\^ ", " | "}, {" \\+= ", " = ", " -= "}, {" -= ", " = ", " += "}, {"\\+\\+", "--"}, {" / ", " * "}, {"\\bmin\\b", "max"},
        {"\\btrue\\b", "false"}, {"\\bfalse\\b", "true"},
        {"\\bUNKNOWN\\b", "OUTSIDE"}, {"\\bOUTSIDE\\b", "STATE"}, {"\\bSTATE\\b", "OUTSIDE"}, {"\\bFULL\\b", "STATE"},
        {"\\bNONE\\b", "0"}, {"\\bLOST\\b", "0"}, {"\\bNULL\\b", "CAST"}, {"\\bCAST\\b", "INDEX"}, {"\\bINDEX\\b", "SIZE"},
        {"\\bSIZE\\b", "INDEX"}, {"\\bNO_FAULT\\b", "1"}, {"\\brefused\\(", "("}, {"\\bfailed\\(", "-10 - ("},
        {"\\bMONTHS\\b", "(MONTHS - 1)"}, {"\\bbyte\\b", "short"}, {"\\bshort\\b", "byte"}};

    private record Mutant(int line, String was, String is, String source) {
    }

    private Mutants() {
    }

    public static void main(String[] args) throws Exception {
        Path tests = Path.of(args[0]);
        List<Mutant> all = mutants(Files.readString(SOURCE));
        PrintStream out = System.out;
        System.setOut(new PrintStream(OutputStream.nullOutputStream()));
        AtomicInteger[] counts = {new AtomicInteger(), new AtomicInteger(), new AtomicInteger()};
        ExecutorService workers = Executors.newFixedThreadPool(Runtime.getRuntime().availableProcessors());
        for (Mutant mutant : all) {
            workers.submit(() -> {
                int fate = fate(mutant, tests);
                counts[fate].incrementAndGet();
                if (fate == 0) {
                    out.println("not seen, line " + mutant.line + ": " + mutant.was + "  ->  " + mutant.is);
                }
            });
        }
        workers.shutdown();
        workers.awaitTermination(2, TimeUnit.HOURS);
        out.println(counts[1] + " seen, " + counts[0] + " not seen, " + counts[2] + " were no Java");
        System.exit(0);
    }

    /** 0: no test saw it, 1: one did, or the class threw or did not end, 2: it cannot be compiled. */
    private static int fate(Mutant mutant, Path tests) {
        Map<String, byte[]> classes = compile(mutant.source);
        if (classes == null) {
            return 2;
        }
        boolean[] unseen = {false};
        Thread run = new Thread(() -> unseen[0] = passes(classes, tests));
        run.setDaemon(true);
        run.start();
        try {
            run.join(SECONDS * 1000L);
        } catch (InterruptedException e) {
            return 1;
        }
        return !run.isAlive() && unseen[0] ? 0 : 1;
    }

    private static boolean passes(Map<String, byte[]> classes, Path tests) {
        try {
            Method run = new Loader(classes, tests).loadClass("EdgesTest").getDeclaredMethod("run");
            run.setAccessible(true);
            Object due = run.invoke(null);
            Method hasWrong = due.getClass().getDeclaredMethod("hasWrong");
            hasWrong.setAccessible(true);
            return !(Boolean) hasWrong.invoke(due);
        } catch (ReflectiveOperationException | LinkageError e) {
            return false;
        }
    }

    // how it is broken

    private static List<Mutant> mutants(String source) {
        // Comments are blanked out, so that places in the code stay what they are.
        StringBuilder code = new StringBuilder(source);
        Matcher comment = Pattern.compile("(?s)/\\*.*?\\*/|//[^\n]*|@Override|import [^\n]*").matcher(source);
        while (comment.find()) {
            for (int i = comment.start(); i < comment.end(); i++) {
                code.setCharAt(i, code.charAt(i) == '\n' ? '\n' : ' ');
            }
        }
        List<Mutant> all = new ArrayList<>();
        for (String[] change : CHANGES) {
            Matcher m = Pattern.compile(change[0]).matcher(code);
            while (m.find()) {
                for (int k = 1; k < change.length; k++) {
                    add(all, source, m.start(), m.end(), change[k]);
                }
            }
        }
        numbers(all, source, code);
        statements(all, source, code);
        return all;
    }

    private static void numbers(List<Mutant> all, String source, CharSequence code) {
        Matcher m = Pattern.compile("(?<![\\w'])\\d+(?![\\w'])").matcher(code);
        while (m.find()) {
            int number = Integer.parseInt(m.group());
            add(all, source, m.start(), m.end(), String.valueOf(number + 1));
            add(all, source, m.start(), m.end(), "(" + (number - 1) + ")");
        }
        Matcher sign = Pattern.compile("'(.)'").matcher(code);
        while (sign.find()) {
            add(all, source, sign.start(1), sign.end(1), String.valueOf((char) (sign.group(1).charAt(0) + 1)));
            add(all, source, sign.start(1), sign.end(1), String.valueOf((char) (sign.group(1).charAt(0) - 1)));
        }
    }

    private static void statements(List<Mutant> all, String source, CharSequence code) {
        Matcher statement = Pattern.compile("(?m)^ +([\\w.\\[\\]| ]+( [|+-]?= .*|\\+\\+|\\(.*\\));)$").matcher(code);
        while (statement.find()) {
            if (!statement.group(1).startsWith("return")) {
                add(all, source, statement.start(1), statement.end(1), ";");
            }
        }
        Matcher condition = Pattern.compile("\\b(?:if|while) (\\(.*\\)) \\{").matcher(code);
        while (condition.find()) {
            add(all, source, condition.start(1), condition.end(1), "(1 > 2)");
            add(all, source, condition.start(1), condition.end(1), "(1 < 2)");
        }
        Matcher answer = Pattern.compile("return ([^;]+);").matcher(code);
        while (answer.find()) {
            for (String other : new String[] {"0", "1", "false", "true"}) {
                if (!other.equals(answer.group(1))) {
                    add(all, source, answer.start(1), answer.end(1), other);
                }
            }
        }
    }

    private static void add(List<Mutant> all, String source, int from, int to, String other) {
        int line = (int) source.substring(0, from).chars().filter(c -> c == '\n').count() + 1;
        int begin = source.lastIndexOf('\n', from) + 1;
        int end = source.indexOf('\n', to);
        String is = source.substring(begin, from) + other + source.substring(to, end);
        all.add(new Mutant(line, source.substring(begin, end).trim(), is.trim(), source.substring(0, begin) + is + source.substring(end)));
    }

    // how it is compiled and loaded

    private static Map<String, byte[]> compile(String source) {
        JavaCompiler compiler = ToolProvider.getSystemJavaCompiler();
        StandardJavaFileManager files = compiler.getStandardFileManager(d -> { }, null, null);
        Map<String, ByteArrayOutputStream> made = new HashMap<>();
        JavaFileManager inRoom = new ForwardingJavaFileManager<>(files) {
            @Override
            public JavaFileObject getJavaFileForOutput(Location l, String name, JavaFileObject.Kind kind, FileObject sibling) {
                return new SimpleJavaFileObject(URI.create("room:///" + name + ".class"), kind) {
                    @Override
                    public OutputStream openOutputStream() {
                        ByteArrayOutputStream bytes = new ByteArrayOutputStream();
                        made.put(name, bytes);
                        return bytes;
                    }
                };
            }
        };
        JavaFileObject file = new SimpleJavaFileObject(URI.create("room:///AwakeTurns.java"), JavaFileObject.Kind.SOURCE) {
            @Override
            public CharSequence getCharContent(boolean ignoreErrors) {
                return source;
            }
        };
        if (!compiler.getTask(null, inRoom, d -> { }, null, null, List.of(file)).call()) {
            return null;
        }
        Map<String, byte[]> classes = new HashMap<>();
        made.forEach((name, bytes) -> classes.put(name, bytes.toByteArray()));
        return classes;
    }

    /** Loads the broken class ahead of the whole one, and each test anew with it. */
    private static final class Loader extends ClassLoader {
        private final Map<String, byte[]> classes;
        private final Path tests;

        Loader(Map<String, byte[]> classes, Path tests) {
            super(ClassLoader.getPlatformClassLoader());
            this.classes = classes;
            this.tests = tests;
        }

        @Override
        protected Class<?> findClass(String name) throws ClassNotFoundException {
            try {
                byte[] bytes = classes.containsKey(name) ? classes.get(name) : Files.readAllBytes(tests.resolve(name + ".class"));
                return defineClass(name, bytes, 0, bytes.length);
            } catch (java.io.IOException e) {
                throw new ClassNotFoundException(name, e);
            }
        }
    }
}
