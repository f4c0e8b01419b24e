import java.io.IOException;
import java.io.UncheckedIOException;
import java.nio.file.Files;
import java.nio.file.Path;
import java.util.ArrayList;
import java.util.Arrays;
import java.util.List;
import java.util.Set;
import java.util.function.Supplier;

/** Ties a test to the sentence of the document that it tests. */
final class Sentences {
    /** The section of the document that has no number. */
    static final int TERMS = 0;

    static final Class<?> ARGUMENT = IllegalArgumentException.class;
    static final Class<?> STATE = IllegalStateException.class;
    static final Class<?> INDEX = IndexOutOfBoundsException.class;

    private static final Path DOCUMENT = Path.of("../shared/DOC.md");
    private static final int SECTIONS = 27;
    /** What tells nothing by itself: the names of paragraphs, and words between two sentences. */
    private static final Set<String> NO_SENTENCES = Set.of("", "and", "or", "Coils", "Tubes", "Change",
            "A sale", "Promises", "An hour", "Text", "Undo", "Exceptions");
    /** The words that any test has tested, by section. */
    private static final List<List<String>> TESTED = new ArrayList<>();

    private final String[] sections = new String[SECTIONS];
    private String now = "";

    interface Call {
        void on(CoilPrices x);
    }

    interface CallWith {
        void on(CoilPrices x, int value);
    }

    Sentences() {
        String text = documentText();
        for (int number = 0; number < SECTIONS; number++) {
            sections[number] = section(text, number == TERMS ? "## Terms\n" : "## Promise " + number + ": ");
            if (TESTED.size() < SECTIONS) {
                TESTED.add(new ArrayList<>());
            }
        }
    }

    private static String documentText() {
        try {
            return Files.exists(DOCUMENT) ? Files.readString(DOCUMENT) : "";
        } catch (IOException e) {
            throw new UncheckedIOException(e);
        }
    }

    /** Empty if the document is not there. */
    private static String section(String text, String title) {
        int start = text.indexOf(title);
        if (start < 0) {
            return "";
        }
        int end = text.indexOf("\n## ", start);
        return text.substring(start, end < 0 ? text.length() : end);
    }

    /** Runs the test of these words, which must stand in this section of the document. */
    void test(int section, String words, Runnable test) {
        now = (section == TERMS ? "Terms" : "Promise " + section) + ", \"" + words + "\"";
        if (!sections[section].isEmpty() && !sections[section].contains(words)) {
            Check.complain("the document does not say: " + now);
        }
        TESTED.get(section).add(words);
        int before = Check.wrong();
        test.run();
        if (Check.wrong() != before) {
            System.out.println("  that is: " + now);
        }
    }

    /** Complains of each line about an argument, an answer or an exception that has no test. */
    void mustHaveTestedAllPromises() {
        for (int number = 1; number < SECTIONS; number++) {
            for (String line : sections[number].split("\n")) {
                boolean needsTest = line.startsWith("- `") || line.startsWith("Throws ") || line.startsWith("Returns ");
                if (needsTest && !TESTED.get(number).contains(line)) {
                    Check.complain("promise " + number + " has no test of: " + line);
                }
            }
        }
    }

    /** Complains of all words of 'Terms' and of the promises that no test has quoted so far. */
    void mustHaveTestedEverySentence() {
        for (int number = 0; number < SECTIONS; number++) {
            String text = withoutTitle(number);
            boolean[] isTested = new boolean[text.length()];
            for (String words : TESTED.get(number)) {
                for (int at = text.indexOf(words); at >= 0; at = text.indexOf(words, at + 1)) {
                    Arrays.fill(isTested, at, at + words.length(), true);
                }
            }
            StringBuilder left = new StringBuilder();
            for (int i = 0; i < text.length(); i++) {
                left.append(isTested[i] || text.charAt(i) == '\n' ? '\n' : text.charAt(i));
            }
            for (String words : left.toString().split("\n")) {
                String bare = words.replaceAll("^[^A-Za-z]+|[^A-Za-z]+$", "");
                if (!NO_SENTENCES.contains(bare)) {
                    Check.complain((number == TERMS ? "Terms" : "promise " + number) + " has no test of: " + words);
                }
            }
        }
    }

    /** The section without its title, and without the line of the face that it repeats. */
    private String withoutTitle(int number) {
        String text = sections[number];
        String end = number == TERMS ? "## Terms\n" : "`: ";
        int start = text.indexOf(end);
        return start < 0 ? text : text.substring(start + end.length());
    }

    /** The call must throw the very exception, and change nothing that can be asked for. */
    static void refused(Class<?> due, Supplier<CoilPrices> start, String name, Call call) {
        CoilPrices x = start.get();
        String got = "nothing";
        try {
            call.on(x);
        } catch (RuntimeException e) {
            got = e.getClass().getName();
        }
        if (!got.equals(due.getName())) {
            Check.complain(name + " threw " + got + ", due is " + due.getName());
        }
        Machines.mustBeSame("behind the refused " + name, x, start.get());
    }

    static void refused(Class<?> due, Supplier<CoilPrices> start, String name, CallWith call, int... values) {
        for (int value : values) {
            refused(due, start, name + " with " + value, x -> call.on(x, value));
        }
    }
}
