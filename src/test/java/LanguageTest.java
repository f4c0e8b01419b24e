import java.io.IOException;
import java.nio.charset.StandardCharsets;
import java.nio.file.Files;
import java.nio.file.Path;

/**
 * The rules of LANGUAGE.md that can be told from the text of the class and from the compiler's tree
 * of it; and that small breaches of them are found.
 */
public final class LanguageTest {
    private static final Path PROGRAM = Path.of("src/main/java/CoilPrices.java");
    private static final String[] FORBIDDEN = {
        "Exact(", "System.out", "System.nano", "System.current", "System.identity", "Random", "Thread",
        "hashCode", "toString", "equals(", "Throwable", "ArrayIndexOutOfBounds", "NullPointer",
        "ClassCast", "NegativeArraySize", "ArrayStore", "strictfp", "native ", "volatile", "transient",
    };

    private LanguageTest() {
    }

    public static void main(String[] args) throws IOException {
        String program = Files.readString(PROGRAM, StandardCharsets.UTF_8);
        words(program);
        LanguageRules rules = LanguageRules.ofCompiler();
        if (rules == null) {
            System.out.println("no compiler here: the tree of the class is not looked at");
        } else {
            for (String breach : rules.breachesOf(program)) {
                Check.complain(breach);
            }
            breachesAreFound(rules, program);
        }
        Check.finish();
    }

    private static void words(String program) {
        for (String word : FORBIDDEN) {
            if (program.contains(word)) {
                Check.complain("LANGUAGE.md does not leave: " + word);
            }
        }
        for (int i = 0; i < program.length(); i++) {
            if (program.charAt(i) > 126) {
                Check.complain("a sign beyond ASCII at " + i);
            }
        }
    }

    /** Each row: the number of a rule, and members that break it. */
    private static void breachesAreFound(LanguageRules rules, String program) {
        String[][] members = {
            {"1", "int open() { return 0; }"},
            {"1", "static int shown = 0;"},
            {"2", "private Runnable late() { return () -> { }; }"},
            {"2", "private void local() { class Local { } }"},
            {"2", "private java.util.function.IntSupplier late() { return machine::hashCode; }"},
            {"3", "private java.util.Map<String, String> map = null;"},
            {"3", "private int[][][] deep = null;"},
            {"3", "private Machine[][] wide = null;"},
            {"3", "private float rest(float a) { return a % 2.0f; }"},
            {"4", "private int bits(float a) { return Float.floatToIntBits(a); }"},
            {"4", "private int sum(int a) { return Math.addExact(a, 1); }"},
            {"4", "private float big(float a) { return Math.max(a, 1.0f); }"},
            {"5", "private static int count = 0;"},
            {"5", "private static final float HALF = 0.5f;"},
            {"5", "private static final int[] ROW = new int[3];"},
            {"5", "private static void spoil() { COIN[0] = 6; }"},
            {"5", "private static final int LATE; static { LATE = 3; }"},
            {"6", "private void late() { throw new IndexOutOfBoundsException(\"a\" + savedCount); }"},
            {"6", "private void late() { throw new UnsupportedOperationException(machine.coils.length + \"\"); }"},
            {"6", "private void late() { throw new ArrayStoreException(); }"},
            {"6", "private void late(RuntimeException e) { throw e; }"},
            {"6", "private void late() { try { late(); } finally { savedCount = 0; } }"},
            {"6", "private void late() { synchronized (machine) { savedCount = 0; } }"},
            {"6", "private void late() { assert savedCount > 0; }"},
            {"6", "private static final class Odd { Odd() { throw new RuntimeException(); } }"},
            {"8", "private int deep(int a) { return a > 0 ? deep(a - 1) : 0; }"},
            {"9", "private void late() { while (true) { savedCount = 0; } }"},
            {"9", "private void late() { for (;;) { savedCount = 0; } }"},
            {"10", "private String join(int a) { return \"a\" + a; }"},
            {"10", "private void join(String a) { a += 1; }"},
            {"11", "private void many(int a, int b, int c, int d, int e, int f, int g, int h) { }"},
            {"11", "private void tall() { " + "savedCount = 0;\n".repeat(70) + " }"},
            {"12", "private int[] row() { return new int[3]; }"},
            {"12", "private Machine another() { return new Machine(); }"},
        };
        int end = program.lastIndexOf('}');
        for (String[] member : members) {
            boolean found = false;
            for (String breach : rules.breachesOf(program.substring(0, end) + member[1] + "}\n")) {
                found |= breach.startsWith("rule " + member[0] + ",");
            }
            if (!found) {
                Check.complain("no breach of rule " + member[0] + " is found in: " + member[1]);
            }
        }
    }
}
