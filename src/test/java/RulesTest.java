import java.io.IOException;
import java.lang.reflect.Constructor;
import java.lang.reflect.Field;
import java.lang.reflect.Method;
import java.lang.reflect.Modifier;
import java.nio.file.Files;
import java.nio.file.Path;
import java.util.ArrayList;
import java.util.List;
import java.util.Map;
import java.util.Set;
import java.util.TreeMap;
import java.util.TreeSet;
import java.util.regex.Matcher;
import java.util.regex.Pattern;

/** What can be checked simply of the public face and of the rules of LANGUAGE.md. */
public final class RulesTest {
    private static final Path SOURCE = Path.of("src/main/java/ClockworkChess.java");
    private static final List<String> METHODS = List.of("setUp()", "set(int,int)",
        "put(int,int,int,int)", "tower(int)", "cell(int,int)", "count(int)", "undo()",
        "move(int,int)", "pass()", "refusal(int,int)", "cost(int,int)", "moves(int)",
        "listed(int,int)", "struck(int,int)", "reach(int,int)", "replies()", "best()", "type(int)",
        "clearText()", "fault(int)", "play()");
    private static final List<String> CONSTANTS = List.of("INVALID_ARGUMENT", "NOT_POSSIBLE",
        "LIMIT_REACHED", "NOT_FOUND");
    private static final List<String> FORBIDDEN = List.of("\\bthrow", "\\btry\\b", "\\bcatch\\b",
        "\\bsynchronized\\b", "\\bassert\\b", "\\bimport\\b", "\\bpackage\\b", "->", "::",
        "\\bstatic\\s*\\{", "\\bprotected\\b", "\\bvar\\b", "\\bSystem\\.(?!arraycopy)",
        "Exact\\(", "@", "\\bObject\\b", "\\bnative\\b", "\\bvolatile\\b", "\\bRandom\\b");
    private static final Set<String> LIBRARY = Set.of("System.arraycopy", "Math.abs", "Math.max",
        "Math.min", "Integer.compare");
    private static final Pattern METHOD = Pattern.compile(
        "^ {4,8}(?:public|private)[^=;(]*?\\b(\\w+)\\(([^)]*)\\) \\{$", Pattern.MULTILINE);

    private RulesTest() {
    }

    public static void main(String[] args) throws IOException {
        Check.part("rules");
        String source = Files.readString(SOURCE).replaceAll("(?s)/\\*.*?\\*/", "")
            .replaceAll("//.*", "").replaceAll("'[^']'", "0");
        face();
        names();
        for (String word : FORBIDDEN) {
            Check.holds("no " + word, !Pattern.compile(word).matcher(source).find());
        }
        library(source);
        sizes(source);
        Check.holds("calls at most eight deep", deepest(bodies(source)) <= 8);
        Check.finish();
    }

    /** What the class uses of the library, of which more is allowed; it has no texts of its own. */
    private static void library(String source) {
        Matcher use = Pattern.compile("\\b[A-Z]\\w*[a-z]\\w*\\.\\w+").matcher(source);
        while (use.find()) {
            Check.holds(use.group() + " is of the library", LIBRARY.contains(use.group()));
        }
        Check.holds("no text", source.indexOf('"') < 0);
    }

    private static void face() {
        Class<?> c = ClockworkChess.class;
        int modifiers = c.getModifiers();
        Check.holds("public final", Modifier.isPublic(modifiers) && Modifier.isFinal(modifiers));
        Set<String> methods = new TreeSet<>();
        for (Method method : c.getDeclaredMethods()) {
            boolean isPublic = Modifier.isPublic(method.getModifiers());
            Check.holds(method + " is private or public",
                isPublic || Modifier.isPrivate(method.getModifiers()));
            if (isPublic) {
                methods.add(method.toString().replaceAll(".*ClockworkChess\\.", ""));
                Check.holds(method + " is of int", method.getReturnType() == int.class
                    && !Modifier.isStatic(method.getModifiers()));
            }
        }
        Check.holds("methods " + methods, methods.equals(new TreeSet<>(METHODS)));
        Set<String> constants = new TreeSet<>();
        for (Field field : c.getDeclaredFields()) {
            boolean isPublic = Modifier.isPublic(field.getModifiers());
            Check.holds(field + " is private or public",
                isPublic || Modifier.isPrivate(field.getModifiers()));
            Check.holds(field + " is final if static", !Modifier.isStatic(field.getModifiers())
                || Modifier.isFinal(field.getModifiers()));
            if (isPublic) {
                constants.add(field.getName());
            }
        }
        Check.holds("constants " + constants, constants.equals(new TreeSet<>(CONSTANTS)));
        Constructor<?>[] constructors = c.getDeclaredConstructors();
        Check.holds("one public constructor", constructors.length == 1
            && Modifier.isPublic(constructors[0].getModifiers())
            && constructors[0].getParameterCount() == 0);
    }

    private static List<Class<?>> all() {
        List<Class<?>> all = new ArrayList<>(List.of(ClockworkChess.class.getDeclaredClasses()));
        all.add(ClockworkChess.class);
        return all;
    }

    private static void names() {
        Check.holds("classes", all().size() <= 12);
        for (Class<?> c : all()) {
            int fields = 0;
            for (Field field : c.getDeclaredFields()) {
                fields += Modifier.isStatic(field.getModifiers()) ? 0 : 1;
            }
            Check.holds(c + " has few fields", fields <= 20);
            Check.holds(c + " is static", c == ClockworkChess.class
                || Modifier.isStatic(c.getModifiers()));
            for (Method method : c.getDeclaredMethods()) {
                Check.holds(method + " has few parameters", method.getParameterCount() <= 7);
                boolean isFace = Modifier.isPublic(method.getModifiers());
                Check.holds(method + " bears no public name", isFace || METHODS.stream()
                    .noneMatch(name -> name.startsWith(method.getName() + "(")));
            }
        }
    }

    /** The bodies of all methods by their names; those of the same name are put together. */
    private static Map<String, String> bodies(String source) {
        Map<String, String> bodies = new TreeMap<>();
        Matcher matcher = METHOD.matcher(source);
        while (matcher.find()) {
            int open = 1;
            int end = matcher.end();
            while (open > 0) {
                char sign = source.charAt(end);
                open += sign == '{' ? 1 : sign == '}' ? -1 : 0;
                end++;
            }
            bodies.merge(matcher.group(1), source.substring(matcher.end(), end), String::concat);
        }
        return bodies;
    }

    private static void sizes(String source) {
        Map<String, String> bodies = bodies(source);
        Check.holds("all methods are found", bodies.keySet().containsAll(
            METHODS.stream().map(name -> name.replaceAll("\\(.*", "")).toList()));
        bodies.forEach((name, body) -> Check.holds(name + " is short", body.lines().count() <= 60));
    }

    private static int deepest(Map<String, String> bodies) {
        int deepest = 0;
        for (String name : bodies.keySet()) {
            deepest = Math.max(deepest, depth(bodies, name, 0));
        }
        return deepest;
    }

    /** Methods of one name in two classes may call one another, so that a call of itself is let be. */
    private static int depth(Map<String, String> bodies, String name, int above) {
        int depth = 1;
        Matcher call = Pattern.compile("\\b(\\w+)\\(").matcher(bodies.getOrDefault(name, ""));
        while (call.find() && above < 40) {
            String called = call.group(1);
            boolean isKeyword = Set.of("if", "for", "while", "switch").contains(called);
            if (!isKeyword && !called.equals(name)) {
                depth = Math.max(depth, 1 + depth(bodies, called, above + 1));
            }
        }
        return depth;
    }
}
