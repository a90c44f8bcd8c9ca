import java.io.IOException;
import java.nio.file.Files;
import java.nio.file.Path;
import java.util.ArrayList;
import java.util.Arrays;
import java.util.List;
import java.util.regex.Matcher;
import java.util.regex.Pattern;

/** README.md tells all of the class in the document's words, and its example answers so. */
public final class ReadmeTest {
    private static final Pattern PROMISE = Pattern.compile(
        "(?ms)^## Promise \\d+: [^\\n]*\\n\\n`(.*?)`: (.*?)(?=^## |\\z)");
    private static final Pattern CALL = Pattern.compile(
        " {4}game\\.(\\w+)\\(([^)]*)\\); +// (-?\\d+)(?!\\d).*");
    private static final String NEW_GAME = "    ClockworkChess game = new ClockworkChess();";
    private static final int CALLS_OF_THE_FACE = 21;

    private ReadmeTest() {
    }

    public static void main(String[] args) throws IOException, ReflectiveOperationException {
        String doc = Files.readString(Path.of("../shared/DOC.md"));
        String readme = Files.readString(Path.of("README.md"));
        Check.part("README.md");
        howToUseIt(doc, readme);
        words(doc, readme);
        howToRunItsTests(readme);
        example(readme);
        Check.finish();
    }

    /** The making of an object and each call have a heading, and below it what the document says. */
    private static void howToUseIt(String doc, String readme) {
        Check.holds("how to use it", readme.contains("\n## How to use it\n"));
        Matcher promise = PROMISE.matcher(doc);
        int promises = 0;
        while (promise.find()) {
            promises++;
            String face = promise.group(1);
            Check.holds("the document's words on " + face,
                plain(below(readme, "#### `" + face + "`")).equals(plain(promise.group(2))));
        }
        Check.due("promises", promises, CALLS_OF_THE_FACE + 1);
    }

    /** What the calls speak of is told too; what the interface says is for who writes the class. */
    private static void words(String doc, String readme) {
        String terms = doc.substring(doc.indexOf("## Terms\n"), doc.indexOf("## Promise 1:"));
        int told = 0;
        for (String paragraph : terms.split("\n\n")) {
            String words = plain(paragraph);
            if (!words.startsWith("#") && !words.startsWith("Ahead of the calls")) {
                Check.holds("the words " + words, plain(readme).contains(words));
                told++;
            }
        }
        Check.holds("there are words", told > 0);
        Check.holds("for how many calls", plain(readme).contains("An object is used for at most 512 "
            + "calls after it has been made; what later calls answer is free."));
    }

    private static void howToRunItsTests(String readme) throws IOException {
        String told = below(readme, "## How to run its tests");
        Check.holds("how to run its tests", told.contains("\n    .ci/run\n"));
        Check.holds(".ci/run is there", Files.isExecutable(Path.of(".ci/run")));
        try (var files = Files.list(Path.of("src/test/java"))) {
            List<String> tests = files.map(file -> file.getFileName().toString())
                .filter(name -> name.endsWith("Test.java")).toList();
            Check.holds("there are tests", !tests.isEmpty());
            for (String test : tests) {
                String name = test.replace(".java", "");
                Check.holds("what " + name + " is", told.contains("- `" + name + "`: "));
            }
        }
    }

    private static void example(String readme) throws ReflectiveOperationException {
        List<String> lines = readme.lines().toList();
        int at = lines.indexOf(NEW_GAME);
        Check.holds("an example", at >= 0);
        ClockworkChess game = new ClockworkChess();
        int calls = 0;
        for (String line : at < 0 ? lines.subList(0, 0) : lines.subList(at + 1, lines.size())) {
            if (!line.startsWith("    ")) {
                break;
            }
            Matcher call = CALL.matcher(line);
            Check.holds("a call with its answer: " + line, call.matches());
            if (call.matches()) {
                Check.due(line.strip(), answer(game, call.group(1), call.group(2)),
                    Integer.parseInt(call.group(3)));
                calls++;
            }
        }
        Check.holds("calls in the example", calls > 0);
    }

    private static int answer(ClockworkChess game, String name, String told)
            throws ReflectiveOperationException {
        List<Object> numbers = new ArrayList<>();
        for (String number : told.isEmpty() ? new String[0] : told.split(", ")) {
            boolean isSign = number.startsWith("'");
            numbers.add(isSign ? number.charAt(1) : Integer.parseInt(number));
        }
        Class<?>[] types = new Class<?>[numbers.size()];
        Arrays.fill(types, int.class);
        return (int) ClockworkChess.class.getMethod(name, types).invoke(game, numbers.toArray());
    }

    /** What stands between a heading and the next one. */
    private static String below(String text, String heading) {
        int at = text.indexOf("\n" + heading + "\n");
        if (at < 0) {
            return "";
        }
        String rest = text.substring(at + 1 + heading.length());
        return rest.split("(?m)^#+ ", 2)[0];
    }

    private static String plain(String text) {
        return text.strip().replaceAll("\\s+", " ");
    }
}
