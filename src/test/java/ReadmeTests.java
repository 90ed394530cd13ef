import java.io.IOException;
import java.nio.file.Files;
import java.nio.file.Path;
import java.nio.file.Paths;
import java.util.ArrayList;
import java.util.Arrays;
import java.util.List;
import java.util.regex.Matcher;
import java.util.regex.Pattern;
import java.util.stream.Stream;

/** README.md: its example answers as it says, and its tables say of each call what the document says. */
public final class ReadmeTests {
    private static final List<String> NAMES = List.of("NONE", "UNKNOWN", "OUTSIDE", "NOT", "FULL", "NULL", "EMPTY", "CAST", "ROOM");
    private static int looked = 0;
    private static int wrong = 0;

    public static void main(String[] args) throws IOException, ReflectiveOperationException {
        String readme = read("README.md");
        example(readme);
        constants(readme);
        calls(readme, read("../shared/DOC.md"));
        tests(readme);
        System.out.println(looked + " rows of README.md looked at, " + wrong + " not so");
        if (wrong != 0) {
            System.exit(1);
        }
    }

    private static String read(String path) throws IOException {
        return new String(Files.readAllBytes(Paths.get(path)), "UTF-8");
    }

    private static void check(boolean holds, String otherwise) {
        looked++;
        if (!holds) {
            wrong++;
            System.out.println(otherwise);
        }
    }

    private static int valueOf(String word) throws ReflectiveOperationException {
        return NAMES.contains(word) ? MeterDesk.class.getField(word).getInt(null) : Integer.parseInt(word);
    }

    private static void example(String readme) throws ReflectiveOperationException {
        Matcher text = Pattern.compile("String text = \"(.*)\";").matcher(readme);
        if (!text.find()) {
            check(false, "the example has no text");
            return;
        }
        Desk desk = new Desk().type(text.group(1));
        Matcher row = Pattern.compile("(?m)^desk\\.(\\w+)\\(([0-9, ]*)\\); +// (-?[0-9]+|[A-Z]+)\\b").matcher(readme);
        int rows = 0;
        while (row.find()) {
            int[] numbers = Arrays.stream(row.group(2).split(", ")).filter(word -> !word.isEmpty()).mapToInt(Integer::parseInt).toArray();
            int got = desk.call(row.group(1), numbers);
            check(got == valueOf(row.group(3)), "the example's " + row.group() + " answered " + got);
            rows++;
        }
        check(rows == lines(readme, "^desk\\..*"), "not every row of the example was looked at");
    }

    private static long lines(String page, String form) {
        return Arrays.stream(page.split("\n")).filter(line -> line.matches(form)).count();
    }

    private static void constants(String readme) throws ReflectiveOperationException {
        for (String name : NAMES.subList(1, NAMES.size())) {
            check(readme.contains("\n| " + name + " | " + valueOf(name) + " | "), "no row for " + name);
        }
        check(readme.contains("NONE (" + MeterDesk.NONE + ")"), "no word on NONE");
    }

    private static void calls(String readme, String document) {
        Matcher promise = Pattern.compile("## Promise \\d+: (\\w+)\n\n`int \\w+\\((.*?)\\)`: (.*)").matcher(document);
        int rows = 0;
        while (promise.find()) {
            String call = promise.group(1) + "(" + promise.group(2).replace("int ", "") + ")";
            Matcher row = Pattern.compile("(?m)^\\| `" + Pattern.quote(call) + "` \\| (.*) \\| (.*)\\|$").matcher(readme);
            rows++;
            if (!row.find()) {
                check(false, "no row for " + call);
                continue;
            }
            List<String> due = named(promise.group(3));
            boolean hasNone = due.remove("NONE");
            check(named(row.group(2)).equals(due), call + " is refused with " + due);
            check(named(row.group(1)).equals(hasNone ? List.of("NONE") : List.of()), call + " answers NONE: " + hasNone);
        }
        check(rows == 29, "the document has " + rows + " calls");
    }

    /** The answers that a text names, in the order of their numbers. */
    private static List<String> named(String text) {
        List<String> found = new ArrayList<>();
        for (String name : NAMES) {
            if (Pattern.compile("\\b" + name + "\\b").matcher(text).find()) {
                found.add(name);
            }
        }
        return found;
    }

    private static void tests(String readme) throws IOException {
        List<Path> files = new ArrayList<>();
        try (Stream<Path> all = Files.list(Paths.get("src/test/java"))) {
            all.forEach(files::add);
        }
        for (Path file : files) {
            String name = file.getFileName().toString().replace(".java", "");
            check(readme.contains("`" + name + "`"), "no word on the test " + name);
        }
    }
}
