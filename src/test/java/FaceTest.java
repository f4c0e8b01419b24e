import java.io.IOException;
import java.lang.reflect.Constructor;
import java.lang.reflect.Field;
import java.lang.reflect.Method;
import java.lang.reflect.Modifier;
import java.nio.file.Files;
import java.nio.file.Path;
import java.util.Set;
import java.util.TreeSet;

/** The public face of the document, and some rules of LANGUAGE.md that a look at the text tells. */
public final class FaceTest {
    private static final String[] FACE = {
        "int set(int, int)", "int addCoil(int, int, int)", "int stock(int, int)", "int fill(int, int)",
        "int buy(int, int, int, int, int)", "int look(int)", "int pass(int)", "int emptyBox()",
        "int coil(int, int)", "float demand(int)", "int tube(int)", "int value(int)",
        "int setting(int)", "int promise(int)", "int change(int, int)", "int mostPayable(int)",
        "int coinFor(int)", "int priceIn(int, int)", "int salesInARow(int, int, int)",
        "int favorite()", "int append(int)", "int clearText()", "int carryOut()", "int undo()",
        "long digest()",
    };
    private static final String[] FORBIDDEN = {
        "import ", "package ", "->", "::", "Float.", "Double.", "Exact(", "finally", "synchronized",
        "assert ", "catch", "Arrays.sort", "System.out", "System.nano", "System.current", "Random",
        "hashCode", "toString", "equals(", "Throwable", "ArrayIndexOutOfBounds", "NullPointer",
        "public static void", "protected ",
    };

    private FaceTest() {
    }

    public static void main(String[] args) throws IOException {
        methods();
        constructor();
        constants();
        text();
        Check.finish();
    }

    private static void methods() {
        Set<String> due = new TreeSet<>(Set.of(FACE));
        Set<String> names = new TreeSet<>();
        for (Method method : CoilPrices.class.getDeclaredMethods()) {
            if (Modifier.isPublic(method.getModifiers())) {
                StringBuilder types = new StringBuilder();
                for (Class<?> type : method.getParameterTypes()) {
                    types.append(types.length() == 0 ? "" : ", ").append(type.getName());
                }
                String found = method.getReturnType() + " " + method.getName() + "(" + types + ")";
                if (!due.remove(found)) {
                    Check.complain("not in the face: " + found);
                }
                names.add(method.getName());
            }
        }
        if (!due.isEmpty()) {
            Check.complain("not there: " + due);
        }
        for (Class<?> type : CoilPrices.class.getDeclaredClasses()) {
            notNamedLikeTheFace(type, names);
        }
        for (Method method : CoilPrices.class.getDeclaredMethods()) {
            boolean isPublic = Modifier.isPublic(method.getModifiers());
            boolean isPrivate = Modifier.isPrivate(method.getModifiers());
            if (!isPublic && (!isPrivate || names.contains(method.getName()))) {
                Check.complain("neither face nor private, or named like the face: " + method);
            }
        }
    }

    private static void notNamedLikeTheFace(Class<?> type, Set<String> names) {
        if (Modifier.isPublic(type.getModifiers()) || !Modifier.isStatic(type.getModifiers())) {
            Check.complain("public or not static: " + type);
        }
        for (Method method : type.getDeclaredMethods()) {
            if (names.contains(method.getName())) {
                Check.complain("named like a method of the face: " + method);
            }
        }
    }

    private static void constructor() {
        Constructor<?>[] constructors = CoilPrices.class.getDeclaredConstructors();
        Check.due("the constructors", constructors.length, 1);
        Check.due("its parameters", constructors[0].getParameterCount(), 0);
        Check.due("it is public", constructors[0].getModifiers(), Modifier.PUBLIC);
        Check.due("the class", CoilPrices.class.getModifiers(), Modifier.PUBLIC | Modifier.FINAL);
    }

    private static void constants() {
        Check.due("NONE", CoilPrices.NONE, -1);
        for (Field field : CoilPrices.class.getDeclaredFields()) {
            int modifiers = field.getModifiers();
            boolean isNone = field.getName().equals("NONE");
            if (isNone != Modifier.isPublic(modifiers) || isNone == Modifier.isPrivate(modifiers)) {
                Check.complain("a field of the face: " + field);
            }
            if (Modifier.isStatic(modifiers) && !Modifier.isFinal(modifiers)) {
                Check.complain("a static field that is not final: " + field);
            }
        }
    }

    private static void text() throws IOException {
        String text = Files.readString(Path.of("src/main/java/CoilPrices.java"));
        for (String word : FORBIDDEN) {
            if (text.contains(word)) {
                Check.complain("LANGUAGE.md does not leave: " + word);
            }
        }
    }
}
