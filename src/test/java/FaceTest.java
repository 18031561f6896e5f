import java.io.IOException;
import java.lang.reflect.Constructor;
import java.lang.reflect.Field;
import java.lang.reflect.Method;
import java.lang.reflect.Modifier;
import java.nio.file.Files;
import java.nio.file.Path;
import java.util.ArrayList;
import java.util.Arrays;
import java.util.List;
import java.util.Set;
import java.util.TreeSet;
import java.util.regex.Matcher;
import java.util.regex.Pattern;

/** The public face as the document writes it, and those rules of LANGUAGE.md that the text shows. */
final class FaceTest {
    private static final Checks CHECKS = new Checks("FaceTest");

    private static final String PLACE = "IndexOutOfBoundsException";
    private static final String PLACE_ARGUMENT = PLACE + " IllegalArgumentException";
    private static final String ALL = PLACE_ARGUMENT + " IllegalStateException";
    private static final String[] FACE = {
        "int addSchema() IllegalStateException",
        "int setKind(int int int int) " + PLACE_ARGUMENT,
        "int dropKind(int int) " + PLACE_ARGUMENT,
        "int setDefault(int int int) " + ALL,
        "int kindOf(int int) " + PLACE_ARGUMENT,
        "int conflict(int int) " + PLACE,
        "int create(int) " + PLACE + " IllegalStateException",
        "int copy(int int) " + PLACE + " IllegalStateException",
        "int discard(int) " + PLACE,
        "void set(int int int) " + ALL,
        "int append(int int byte) " + ALL,
        "int setPart(int int int) " + ALL,
        "int clear(int int) " + PLACE_ARGUMENT,
        "int schemaOf(int) " + PLACE,
        "boolean has(int int) " + PLACE_ARGUMENT,
        "int get(int int) " + PLACE_ARGUMENT,
        "byte byteOf(int int int) " + PLACE_ARGUMENT + " NoSuchElementException",
        "int open(int int) " + PLACE_ARGUMENT + " NoSuchElementException IllegalStateException",
        "int unknowns(int) " + PLACE,
        "int unknownTag(int int) " + PLACE,
        "int weight(int) " + PLACE,
        "boolean areSame(int int) " + PLACE,
        "boolean areSameByBytes(int int) " + PLACE,
        "int write(int) " + PLACE,
        "int put(byte) IllegalStateException",
        "int cut(int) " + PLACE,
        "int length() ",
        "byte byteAt(int) " + PLACE,
        "int fault() ",
        "int faultAt() ",
        "int read(int) " + ALL,
        "boolean isCanonical(int) " + PLACE,
    };

    public static void main(String[] args) throws IOException {
        constants();
        methods();
        otherMembers();
        text(Files.readAllLines(Path.of(args[0])));
        CHECKS.end();
    }

    private static void constants() {
        int[] constants = {
            Schemabridge.NUMBER, Schemabridge.BYTES, Schemabridge.FIXED, Schemabridge.PLAIN, Schemabridge.SIGNED,
            Schemabridge.FOUR, Schemabridge.TEXT, Schemabridge.PART, Schemabridge.NONE};
        CHECKS.due("the constants", Arrays.toString(constants), "[0, 2, 5, 0, 1, 2, 3, 4, -1]");
    }

    private static void methods() {
        Set<String> got = new TreeSet<>();
        for (Method method : Schemabridge.class.getDeclaredMethods()) {
            if (Modifier.isPublic(method.getModifiers())) {
                got.add(method.getReturnType() + " " + method.getName() + "(" + names(method.getParameterTypes()) + ") "
                    + names(method.getExceptionTypes()));
                CHECKS.due(method.getName() + " is static", Modifier.isStatic(method.getModifiers()), false);
            }
        }
        CHECKS.due("the public methods", got, new TreeSet<>(Arrays.asList(FACE)));
    }

    private static String names(Class<?>[] types) {
        List<String> names = new ArrayList<>();
        for (Class<?> type : types) {
            names.add(type.getSimpleName());
        }
        return String.join(" ", names);
    }

    private static void otherMembers() {
        CHECKS.due("final", Modifier.isFinal(Schemabridge.class.getModifiers()), true);
        Constructor<?>[] constructors = Schemabridge.class.getDeclaredConstructors();
        CHECKS.due("the constructors", constructors.length, 1);
        CHECKS.due("its parameters", constructors[0].getParameterCount(), 0);
        int constants = 0;
        int fields = 0;
        for (Field field : Schemabridge.class.getDeclaredFields()) {
            int modifiers = field.getModifiers();
            constants += Modifier.isPublic(modifiers) ? 1 : 0;
            fields += Modifier.isStatic(modifiers) ? 0 : 1;
            boolean fits = Modifier.isPublic(modifiers) ? Modifier.isStatic(modifiers) : Modifier.isPrivate(modifiers);
            CHECKS.due("the access of " + field.getName(), fits, true);
            CHECKS.due("final and static of " + field.getName(),
                !Modifier.isStatic(modifiers) || Modifier.isFinal(modifiers), true);
        }
        CHECKS.due("the public constants", constants, 9);
        CHECKS.due("at most twenty fields", fields <= 20, true);
        Set<String> face = new TreeSet<>();
        for (String method : FACE) {
            face.add(method.substring(method.indexOf(' ') + 1, method.indexOf('(')));
        }
        methodsThatAreNotOfTheFace(Schemabridge.class, face);
        for (Class<?> inside : Schemabridge.class.getDeclaredClasses()) {
            CHECKS.due(inside.getSimpleName() + " is static", Modifier.isStatic(inside.getModifiers()), true);
            CHECKS.due(inside.getSimpleName() + " is public", Modifier.isPublic(inside.getModifiers()), false);
            CHECKS.due("the fields of " + inside.getSimpleName(), inside.getDeclaredFields().length <= 20, true);
            methodsThatAreNotOfTheFace(inside, face);
        }
    }

    private static void methodsThatAreNotOfTheFace(Class<?> type, Set<String> face) {
        for (Method method : type.getDeclaredMethods()) {
            if (type == Schemabridge.class && !Modifier.isPublic(method.getModifiers())) {
                CHECKS.due(method.getName() + " is private", Modifier.isPrivate(method.getModifiers()), true);
            }
            if (!Modifier.isPublic(method.getModifiers())) {
                CHECKS.due(method.getName() + " bears a public name", face.contains(method.getName()), false);
            }
            CHECKS.due("the parameters of " + method.getName(), method.getParameterCount() <= 7, true);
        }
    }

    private static void text(List<String> lines) {
        List<String> code = new ArrayList<>();
        for (String line : lines) {
            String bare = line.strip();
            boolean isComment = bare.startsWith("//") || bare.startsWith("*") || bare.startsWith("/*");
            code.add(isComment ? "" : line);
        }
        String all = String.join("\n", code);
        String[] outOfBounds = {
            "->", "::", "\\b(try|catch|finally|synchronized|assert|package)\\b", "static \\{", "\\w+Exact\\b",
            "\\bimport (?!java\\.util\\.(Arrays|NoSuchElementException);)", "\\b(Object|System\\.(?!arraycopy))\\b",
            "throw (?!new \\w+\\((\"[^\"]*\")?\\);)", "\\b(Thread|Random|Runtime|Class)\\b"};
        for (String each : outOfBounds) {
            Matcher found = Pattern.compile(each).matcher(all);
            CHECKS.due("what stands in the text of " + each, found.find() ? found.group() : "nothing", "nothing");
        }
        methodLengths(code);
    }

    /** A method's last line is the brace at the indent of its first. */
    private static void methodLengths(List<String> code) {
        for (int line = 0; line < code.size(); line++) {
            Matcher head = Pattern.compile("( {4,8})[\\w\\[\\]]+ .*\\(.*\\{").matcher(code.get(line));
            if (head.matches()) {
                String end = head.group(1) + "}";
                int last = line;
                while (last < code.size() && !code.get(last).equals(end)) {
                    last++;
                }
                CHECKS.due("at most sixty lines from line " + (line + 1), last - line < 60, true);
            }
        }
    }
}
