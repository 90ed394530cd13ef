import java.io.IOException;
import java.nio.file.Files;
import java.nio.file.Path;
import java.nio.file.Paths;
import java.util.HashMap;
import java.util.HashSet;
import java.util.Map;
import java.util.Set;
import java.util.TreeSet;
import java.util.regex.Matcher;
import java.util.regex.Pattern;

/** Which sentence of the document is being tested, what was asked, and whether all was as due. */
final class Sentences {
    private static final String[] REFUSALS = {"NONE", "UNKNOWN", "OUTSIDE", "NOT", "FULL", "NULL", "EMPTY", "CAST", "ROOM"};
    private static final int[] ANSWERS = {MeterDesk.NONE, MeterDesk.UNKNOWN, MeterDesk.OUTSIDE, MeterDesk.NOT, MeterDesk.FULL,
        MeterDesk.NULL, MeterDesk.EMPTY, MeterDesk.CAST, MeterDesk.ROOM};
    private static final String DOCUMENT = document();
    private static final Map<String, Set<Integer>> ASKED = new HashMap<>();
    private static final Set<Integer> TESTED = new HashSet<>();

    private static int promise = 0;
    private static String words = "";
    private static int sentences = 0;
    private static int answers = 0;
    private static int wrong = 0;

    private Sentences() {
    }

    /** The document in one row; nothing where it does not lie, and then nothing is compared with it. */
    private static String document() {
        Path path = Paths.get("../shared/DOC.md");
        try {
            return Files.exists(path) ? new String(Files.readAllBytes(path), "UTF-8").replaceAll("\\s+", " ") : "";
        } catch (IOException unread) {
            return "";
        }
    }

    /** A test begins: of a promise, and the words that say its boundary. */
    static void sentence(int ofPromise, String itsWords) {
        promise = ofPromise;
        words = itsWords;
        sentences++;
        TESTED.add(promise);
        expect(DOCUMENT.isEmpty() || DOCUMENT.contains(words), "the document has no such words");
    }

    static void expect(boolean holds, String otherwise) {
        if (!holds) {
            wrong++;
            System.out.println("promise " + promise + ", \"" + words + "\": " + otherwise);
        }
    }

    static void compare(int want, int got, String name, int[] numbers, CharSequence log) {
        answers++;
        ASKED.computeIfAbsent(name, none -> new TreeSet<>()).add(want);
        expect(got == want, Desk.shown(name, numbers) + " answered " + got + ", due is " + want + "; calls: " + log);
    }

    /** Looks whether each answer of refusal that a promise names was asked for, and ends the run. */
    static void end(int first, int last) {
        for (int number = first; number <= last; number++) {
            expect(TESTED.contains(number), "no sentence of promise " + number + " is tested");
            refusalsAsked(number);
        }
        System.out.println(sentences + " sentences, " + answers + " answers looked at, " + wrong + " not as due");
        if (wrong != 0) {
            System.exit(1);
        }
    }

    private static void refusalsAsked(int number) {
        Matcher section = Pattern.compile("## Promise " + number + ": (\\w+) (.*?)(?=##|$)").matcher(DOCUMENT);
        if (!section.find() || number == 1) {
            return;
        }
        for (int i = 0; i < REFUSALS.length; i++) {
            if (Pattern.compile("\\b" + REFUSALS[i] + "\\b").matcher(section.group(2)).find()) {
                Set<Integer> asked = ASKED.getOrDefault(section.group(1), new TreeSet<>());
                expect(asked.contains(ANSWERS[i]), section.group(1) + " is never " + REFUSALS[i] + " in a test");
            }
        }
    }

    /**
     * Numbers just outside of least .. most and far outside, the smallest and the largest int too,
     * and such as would come in again if some of their bits were lost.
     */
    static int[] outside(int least, int most) {
        TreeSet<Integer> found = new TreeSet<>();
        int[] far = {Integer.MIN_VALUE, Integer.MIN_VALUE + 1, Integer.MAX_VALUE - 1, Integer.MAX_VALUE};
        int[] steps = {0, 1, 2, 8, 16, 31, 32, 33, 64, 128, 256, 1 << 16, 1 << 24, 1 << 30, 1 << 31};
        for (int number : far) {
            addOutside(found, number, least, most);
        }
        for (int step : steps) {
            addOutside(found, least - step, least, most);
            addOutside(found, least + step, least, most);
            addOutside(found, most + step, least, most);
            addOutside(found, -most - step, least, most);
        }
        return found.stream().mapToInt(Integer::intValue).toArray();
    }

    private static void addOutside(Set<Integer> found, int number, int least, int most) {
        if (number < least || number > most) {
            found.add(number);
        }
    }

    static String times(String part, int n) {
        StringBuilder row = new StringBuilder();
        for (int i = 0; i < n; i++) {
            row.append(i == 0 ? "" : ";").append(part);
        }
        return row.toString();
    }
}
