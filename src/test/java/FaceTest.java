import java.io.IOException;
import java.lang.reflect.Constructor;
import java.lang.reflect.Field;
import java.lang.reflect.Method;
import java.lang.reflect.Modifier;
import java.nio.file.Files;
import java.nio.file.Path;
import java.util.Set;
import java.util.TreeSet;

/** The public face: each line of the document's, and nothing else. */
public final class FaceTest {
    static final String[] FACE = {
        "int set(int what, int value) throws IllegalArgumentException",
        "int addCoil(int kind, int lowest, int highest) throws IllegalArgumentException, IllegalStateException",
        "int stock(int coil, int goods)"
                + " throws IndexOutOfBoundsException, IllegalArgumentException, IllegalStateException",
        "int fill(int tube, int coins) throws IndexOutOfBoundsException, IllegalArgumentException",
        "int buy(int coil, int fives, int tens, int twenties, int fifties)"
                + " throws IndexOutOfBoundsException, IllegalArgumentException, IllegalStateException",
        "int look(int coil) throws IndexOutOfBoundsException",
        "int pass(int hours) throws IllegalArgumentException, IllegalStateException",
        "int emptyBox()",
        "int coil(int coil, int what) throws IndexOutOfBoundsException, IllegalArgumentException",
        "float demand(int coil) throws IndexOutOfBoundsException",
        "int tube(int tube) throws IndexOutOfBoundsException",
        "int value(int what) throws IllegalArgumentException",
        "int setting(int what) throws IllegalArgumentException",
        "int promise(int index) throws IndexOutOfBoundsException",
        "int change(int amount, int tube) throws IllegalArgumentException, IndexOutOfBoundsException",
        "int mostPayable(int bound) throws IllegalArgumentException",
        "int coinFor(int amount) throws IllegalArgumentException",
        "int priceIn(int coil, int hours) throws IndexOutOfBoundsException, IllegalArgumentException",
        "int salesInARow(int coil, int tens, int fifties)"
                + " throws IndexOutOfBoundsException, IllegalArgumentException",
        "int favorite()",
        "int append(int value) throws IllegalArgumentException, IllegalStateException",
        "int clearText()",
        "int carryOut()",
        "int undo() throws IllegalStateException",
        "long digest()",
    };
    private static final Path DOCUMENT = Path.of("../shared/DOC.md");
    private static final Path PROGRAM = Path.of("src/main/java/CoilPrices.java");

    private FaceTest() {
    }

    public static void main(String[] args) throws IOException {
        linesOfTheDocument();
        linesOfTheProgram();
        methods();
        insideClasses();
        constructor();
        constants();
        Check.finish();
    }

    private static void mustBeEmpty(String what, Set<String> lines) {
        for (String line : lines) {
            Check.complain(what + ": " + line);
        }
    }

    /** The face above must be the one that the document tells. */
    private static void linesOfTheDocument() throws IOException {
        if (!Files.exists(DOCUMENT)) {
            return;
        }
        String text = Files.readString(DOCUMENT);
        int start = text.indexOf("```java\n");
        Set<String> told = new TreeSet<>();
        for (String line : text.substring(start, text.indexOf("\n}\n", start)).split("\n")) {
            if (line.startsWith("    public ") && line.contains("(")) {
                told.add(line.substring("    public ".length(), line.length() - 1));
            }
        }
        if (!told.remove("CoilPrices()")) {
            Check.complain("the document tells no constructor");
        }
        Set<String> face = new TreeSet<>(Set.of(FACE));
        face.removeAll(told);
        mustBeEmpty("the document does not tell", face);
        told.removeAll(Set.of(FACE));
        mustBeEmpty("the document tells besides", told);
    }

    /** With the names of the parameters, and the exceptions in their order. */
    private static void linesOfTheProgram() throws IOException {
        String text = Files.readString(PROGRAM).replaceAll("\\s+", " ");
        for (String line : FACE) {
            if (!text.contains(" public " + line + " {")) {
                Check.complain("the program does not write: public " + line);
            }
        }
        if (!text.contains(" public static final int NONE = -1;")) {
            Check.complain("the program does not write the constant NONE");
        }
    }

    private static Set<String> withoutNames() {
        Set<String> lines = new TreeSet<>();
        for (String line : FACE) {
            lines.add(line.replaceAll("\\bint [a-zA-Z]+([,)])", "int$1"));
        }
        return lines;
    }

    private static String listOf(Class<?>[] types) {
        StringBuilder list = new StringBuilder();
        for (Class<?> type : types) {
            list.append(list.length() == 0 ? "" : ", ").append(type.getSimpleName());
        }
        return list.toString();
    }

    private static void methods() {
        Set<String> due = withoutNames();
        for (Method method : CoilPrices.class.getDeclaredMethods()) {
            if (Modifier.isPublic(method.getModifiers())) {
                String thrown = listOf(method.getExceptionTypes());
                String found = method.getReturnType() + " " + method.getName() + "("
                        + listOf(method.getParameterTypes()) + ")" + (thrown.isEmpty() ? "" : " throws " + thrown);
                if (method.getModifiers() != Modifier.PUBLIC || !due.remove(found)) {
                    Check.complain("not in the face: " + method);
                }
            }
        }
        mustBeEmpty("not there", due);
    }

    private static Set<String> names() {
        Set<String> names = new TreeSet<>();
        for (String line : FACE) {
            names.add(line.substring(line.indexOf(' ') + 1, line.indexOf('(')));
        }
        return names;
    }

    /** What is not of the face is private, and does not bear a name of it. */
    private static void insideClasses() {
        Set<String> names = names();
        for (Method method : CoilPrices.class.getDeclaredMethods()) {
            boolean isPublic = Modifier.isPublic(method.getModifiers());
            boolean isPrivate = Modifier.isPrivate(method.getModifiers());
            if (!isPublic && (!isPrivate || names.contains(method.getName()))) {
                Check.complain("neither face nor private, or named like the face: " + method);
            }
        }
        for (Class<?> type : CoilPrices.class.getDeclaredClasses()) {
            int modifiers = type.getModifiers();
            if (Modifier.isPublic(modifiers) || Modifier.isProtected(modifiers) || !Modifier.isStatic(modifiers)) {
                Check.complain("public, protected or not static: " + type);
            }
            for (Method method : type.getDeclaredMethods()) {
                if (names.contains(method.getName())) {
                    Check.complain("named like a method of the face: " + method);
                }
            }
        }
    }

    private static void constructor() {
        Constructor<?>[] constructors = CoilPrices.class.getDeclaredConstructors();
        Check.due("the constructors", constructors.length, 1);
        Check.due("its parameters", constructors[0].getParameterCount(), 0);
        Check.due("its exceptions", constructors[0].getExceptionTypes().length, 0);
        Check.due("it is public", constructors[0].getModifiers(), Modifier.PUBLIC);
        Check.due("the class", CoilPrices.class.getModifiers(), Modifier.PUBLIC | Modifier.FINAL);
        Check.due("the class it extends is Object", CoilPrices.class.getSuperclass() == Object.class ? 1 : 0, 1);
        Check.due("its interfaces", CoilPrices.class.getInterfaces().length, 0);
    }

    private static void constants() {
        Check.due("NONE", CoilPrices.NONE, -1);
        for (Field field : CoilPrices.class.getDeclaredFields()) {
            int modifiers = field.getModifiers();
            boolean isNone = field.getName().equals("NONE");
            if (isNone != Modifier.isPublic(modifiers) || isNone == Modifier.isPrivate(modifiers)) {
                Check.complain("a field of the face: " + field);
            }
            if (isNone && modifiers != (Modifier.PUBLIC | Modifier.STATIC | Modifier.FINAL)) {
                Check.complain("not a constant: " + field);
            }
        }
    }
}
