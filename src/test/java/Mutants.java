import java.io.ByteArrayOutputStream;
import java.io.IOException;
import java.io.OutputStream;
import java.io.PrintStream;
import java.io.Writer;
import java.lang.reflect.InvocationTargetException;
import java.lang.reflect.Method;
import java.net.URI;
import java.nio.file.Files;
import java.nio.file.Path;
import java.util.ArrayList;
import java.util.HashMap;
import java.util.List;
import java.util.Map;
import java.util.concurrent.ExecutorService;
import java.util.concurrent.Executors;
import java.util.concurrent.Future;
import java.util.regex.Matcher;
import java.util.regex.Pattern;
import java.util.stream.IntStream;
import javax.tools.FileObject;
import javax.tools.ForwardingJavaFileManager;
import javax.tools.JavaCompiler;
import javax.tools.JavaFileManager;
import javax.tools.JavaFileObject;
import javax.tools.SimpleJavaFileObject;
import javax.tools.ToolProvider;

/**
 * A tool, no test: breaks the class in one place after the other and tells the places at which
 * SentencesTest does not see it. README.md says how to run it.
 */
public final class Mutants {
    private static final Path SOURCE = Path.of("src/main/java/ClockworkChess.java");
    private static final long SECONDS = 60;
    /** Each pattern with what is put instead of its first group, which ? stands for. */
    private static final String[][] RULES = {
        {"[^<>=-](<)[^<>=]", "<=", ">="}, {"(<=)", "<", ">"}, {"[^<>=-](>)[^<>=]", ">=", "<="},
        {"(>=)", ">", "<"}, {"(==)", "!="}, {"(!=)", "=="}, {"(&&)", "||"}, {"(\\|\\|)", "&&"},
        {"(!)[^=]", ""}, {" (\\+) ", "-"}, {" (-) ", "+"}, {" (\\*) ", "/", "+"}, {" (/) ", "*", "%"},
        {" (%) ", "/", "*"}, {"(\\+\\+)", "--"}, {"(\\+=)", "-=", "="}, {"(-=)", "+=", "="},
        {"\\b(true)\\b", "false"}, {"\\b(false)\\b", "true"}, {"\\b(max)\\(", "min"},
        {"\\b(min)\\(", "max"}, {"return ([^;]+);", "0", "1", "INVALID_ARGUMENT",
            "NOT_POSSIBLE", "LIMIT_REACHED", "NOT_FOUND", "true", "false"},
        {"\\b(\\d+)\\b", "+", "-"}, {"(?m)^ {8,}([\\w.]+(?:\\[\\w+\\])? [+-]?= [^;]+;)", ";"},
        {"(?m)^ {8,}([\\w.]+\\([^;]*\\);)", ";"}, {"(?m)^ {8,}(\\w+(?:\\+\\+|--);)", ";"},
        {"'(.)'", "~"}, {"[(<>=+*] ?([A-Z][A-Z_]{3,})\\b", "(? + 1)", "(? - 1)"}, {"\\bif (\\(.*\\)) \\{", "(true)", "(false)"}};

    private final Path classes;
    private final JavaCompiler compiler = ToolProvider.getSystemJavaCompiler();

    private Mutants(Path classes) {
        this.classes = classes;
    }

    public static void main(String[] args) throws Exception {
        PrintStream out = System.out;
        System.setOut(new PrintStream(OutputStream.nullOutputStream()));
        new Mutants(Path.of(args[0])).run(out);
        System.exit(0);
    }

    private void run(PrintStream out) throws Exception {
        String source = Files.readString(SOURCE);
        ExecutorService pool = Executors.newFixedThreadPool(Runtime.getRuntime().availableProcessors());
        List<Future<String>> answers = new ArrayList<>();
        for (int[] place : places(source)) {
            String[] rule = RULES[place[0]];
            for (int index = 1; index < rule.length; index++) {
                String old = source.substring(place[1], place[2]);
                String put = instead(old, rule[index]);
                String mutant = source.substring(0, place[1]) + put + source.substring(place[2]);
                long line = source.substring(0, place[1]).lines().count();
                answers.add(pool.submit(() -> "line " + line + ", " + old + " -> " + put + ": "
                    + (old.equals(put) ? "the same" : judge(mutant))));
            }
        }
        int seen = 0;
        for (Future<String> answer : answers) {
            String text = answer.get();
            if (text.endsWith(": NOT SEEN")) {
                out.println(text);
            } else if (text.endsWith(": seen")) {
                seen++;
            }
        }
        out.println(seen + " were seen");
    }

    private static String instead(String old, String rule) {
        if (old.matches("\\d+")) {
            return String.valueOf(Integer.parseInt(old) + (rule.equals("+") ? 1 : -1));
        }
        return rule.replace("?", old);
    }

    /** The rule, the begin and the end of each place; comments are let be. */
    private static List<int[]> places(String source) {
        String code = blank(blank(source, "(?s)/\\*.*?\\*/"), "//.*");
        List<int[]> places = new ArrayList<>();
        IntStream.range(0, RULES.length).forEach(rule -> {
            Matcher matcher = Pattern.compile(RULES[rule][0]).matcher(code);
            while (matcher.find()) {
                places.add(new int[] {rule, matcher.start(1), matcher.end(1)});
            }
        });
        return places;
    }

    private static String blank(String text, String pattern) {
        return Pattern.compile(pattern).matcher(text).replaceAll(
            found -> found.group().replaceAll("[^\\n]", " "));
    }

    private String judge(String mutant) throws Exception {
        Map<String, byte[]> made = compile(mutant);
        if (made.isEmpty()) {
            return "no class";
        }
        boolean[] seen = {true};
        Thread thread = new Thread(() -> seen[0] = isSeen(made));
        thread.setDaemon(true);
        thread.start();
        thread.join(1000 * SECONDS);
        return seen[0] ? "seen" : "NOT SEEN";
    }

    private boolean isSeen(Map<String, byte[]> made) {
        try {
            ClassLoader loader = new Loader(made);
            Method run = loader.loadClass("SentencesTest").getDeclaredMethod("run");
            run.setAccessible(true);
            run.invoke(null);
            Method wrong = loader.loadClass("Check").getDeclaredMethod("wrong");
            wrong.setAccessible(true);
            return (int) wrong.invoke(null) > 0;
        } catch (InvocationTargetException fault) {
            return true;
        } catch (ReflectiveOperationException fault) {
            throw new IllegalStateException(fault);
        }
    }

    private Map<String, byte[]> compile(String source) throws IOException {
        Map<String, ByteArrayOutputStream> made = new HashMap<>();
        JavaFileObject file = new SimpleJavaFileObject(URI.create("string:///ClockworkChess.java"),
            JavaFileObject.Kind.SOURCE) {
            @Override
            public CharSequence getCharContent(boolean ignoreEncodingErrors) {
                return source;
            }
        };
        JavaFileManager manager = new ForwardingJavaFileManager<JavaFileManager>(
            compiler.getStandardFileManager(null, null, null)) {
            @Override
            public JavaFileObject getJavaFileForOutput(Location location, String name,
                    JavaFileObject.Kind kind, FileObject sibling) {
                return new SimpleJavaFileObject(URI.create("mem:///" + name + ".class"), kind) {
                    @Override
                    public OutputStream openOutputStream() {
                        return made.computeIfAbsent(name, key -> new ByteArrayOutputStream());
                    }
                };
            }
        };
        boolean compiled = compiler.getTask(Writer.nullWriter(), manager, problem -> { },
            List.of("-proc:none"), null, List.of(file)).call();
        manager.close();
        Map<String, byte[]> bytes = new HashMap<>();
        if (compiled) {
            made.forEach((name, stream) -> bytes.put(name, stream.toByteArray()));
        }
        return bytes;
    }

    /** The mutant's classes, and those of the tests anew: their counts are static. */
    private final class Loader extends ClassLoader {
        private final Map<String, byte[]> made;

        Loader(Map<String, byte[]> made) {
            super(ClassLoader.getPlatformClassLoader());
            this.made = made;
        }

        @Override
        protected Class<?> findClass(String name) throws ClassNotFoundException {
            try {
                byte[] bytes = made.containsKey(name) ? made.get(name)
                    : Files.readAllBytes(classes.resolve(name + ".class"));
                return defineClass(name, bytes, 0, bytes.length);
            } catch (IOException fault) {
                throw new ClassNotFoundException(name, fault);
            }
        }
    }
}
