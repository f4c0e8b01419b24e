import java.io.IOException;
import java.io.UncheckedIOException;
import java.nio.file.Files;
import java.nio.file.Path;
import java.util.function.Supplier;

/** Ties a test to the sentence of the document that it tests. */
final class Sentences {
    /** The section of the document that has no number. */
    static final int TERMS = 0;

    static final Class<?> ARGUMENT = IllegalArgumentException.class;
    static final Class<?> STATE = IllegalStateException.class;
    static final Class<?> INDEX = IndexOutOfBoundsException.class;

    private static final Path DOCUMENT = Path.of("../shared/DOC.md");

    private final String[] sections = new String[27];
    private final StringBuilder tested = new StringBuilder();
    private String now = "";

    interface Call {
        void on(CoilPrices x);
    }

    interface CallWith {
        void on(CoilPrices x, int value);
    }

    Sentences() {
        String text = documentText();
        for (int number = 0; number < sections.length; number++) {
            sections[number] = section(text, number == TERMS ? "## Terms\n" : "## Promise " + number + ": ");
        }
    }

    private static String documentText() {
        try {
            return Files.exists(DOCUMENT) ? Files.readString(DOCUMENT) : "";
        } catch (IOException e) {
            throw new UncheckedIOException(e);
        }
    }

    /** Empty if the document is not there. */
    private static String section(String text, String title) {
        int start = text.indexOf(title);
        if (start < 0) {
            return "";
        }
        int end = text.indexOf("\n## ", start);
        return text.substring(start, end < 0 ? text.length() : end);
    }

    /** Runs the test of these words, which must stand in this section of the document. */
    void test(int section, String words, Runnable test) {
        now = (section == TERMS ? "Terms" : "Promise " + section) + ", \"" + words + "\"";
        if (!sections[section].isEmpty() && !sections[section].contains(words)) {
            Check.complain("the document does not say: " + now);
        }
        tested.append(section).append(' ').append(words).append('\n');
        int before = Check.wrong();
        test.run();
        if (Check.wrong() != before) {
            System.out.println("  that is: " + now);
        }
    }

    /** Complains of each line about an argument or an exception that has no test. */
    void mustHaveTestedAllPromises() {
        for (int number = 1; number < sections.length; number++) {
            for (String line : sections[number].split("\n")) {
                boolean needsTest = line.startsWith("- `") || line.startsWith("Throws ") || line.startsWith("Returns ");
                if (needsTest && !tested.toString().contains(number + " " + line + "\n")) {
                    Check.complain("promise " + number + " has no test of: " + line);
                }
            }
        }
    }

    /** The call must throw the very exception, and change nothing that can be asked for. */
    static void refused(Class<?> due, Supplier<CoilPrices> start, String name, Call call) {
        CoilPrices x = start.get();
        String got = "nothing";
        try {
            call.on(x);
        } catch (RuntimeException e) {
            got = e.getClass().getName();
        }
        if (!got.equals(due.getName())) {
            Check.complain(name + " threw " + got + ", due is " + due.getName());
        }
        Machines.mustBeSame("behind the refused " + name, x, start.get());
    }

    static void refused(Class<?> due, Supplier<CoilPrices> start, String name, CallWith call, int... values) {
        for (int value : values) {
            refused(due, start, name + " with " + value, x -> call.on(x, value));
        }
    }
}
