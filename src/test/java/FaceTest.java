import java.io.IOException;
import java.lang.reflect.Constructor;
import java.lang.reflect.Field;
import java.lang.reflect.Method;
import java.lang.reflect.Modifier;
import java.nio.file.Files;
import java.nio.file.Path;
import java.util.ArrayList;
import java.util.Arrays;
import java.util.List;
import java.util.Set;
import java.util.TreeSet;
import java.util.regex.Matcher;
import java.util.regex.Pattern;

/** The public face as the document writes it, and those rules of LANGUAGE.md that the text shows. */
final class FaceTest {
    private static final Checks CHECKS = new Checks("FaceTest");

    private static final Pattern METHOD = Pattern.compile(" *public (\\w+) (\\w+)\\((.*)\\)(?: throws (.*))?;");

    /** The methods as the document writes them: what they answer, their names, their parameters, what they throw. */
    private static final Set<String> FACE = new TreeSet<>();
    private static final Set<String> NAMES = new TreeSet<>();

    public static void main(String[] args) throws IOException {
        constants();
        readFace(Files.readAllLines(Path.of(args[1])));
        methods();
        otherMembers();
        text(Files.readAllLines(Path.of(args[0])));
        CHECKS.end();
    }

    private static void constants() {
        int[] constants = {
            Schemabridge.NUMBER, Schemabridge.BYTES, Schemabridge.FIXED, Schemabridge.PLAIN, Schemabridge.SIGNED,
            Schemabridge.FOUR, Schemabridge.TEXT, Schemabridge.PART, Schemabridge.NONE};
        CHECKS.due("the constants", Arrays.toString(constants), "[0, 2, 5, 0, 1, 2, 3, 4, -1]");
    }

    private static void readFace(List<String> document) {
        for (String line : document) {
            Matcher method = METHOD.matcher(line);
            if (method.matches()) {
                String parameters = method.group(3).replaceAll("(\\w+) \\w+,?", "$1");
                String thrown = method.group(4) == null ? "" : method.group(4).replaceAll("java\\.util\\.|,", "");
                FACE.add(method.group(1) + " " + method.group(2) + "(" + parameters + ") " + thrown);
                NAMES.add(method.group(2));
            }
        }
        CHECKS.due("how many methods the document has", FACE.size(), 32);
    }

    private static void methods() {
        Set<String> got = new TreeSet<>();
        for (Method method : Schemabridge.class.getDeclaredMethods()) {
            if (Modifier.isPublic(method.getModifiers())) {
                got.add(method.getReturnType() + " " + method.getName() + "(" + names(method.getParameterTypes()) + ") "
                    + names(method.getExceptionTypes()));
                CHECKS.due(method.getName() + " is static", Modifier.isStatic(method.getModifiers()), false);
            }
        }
        CHECKS.due("the public methods", got, FACE);
    }

    private static String names(Class<?>[] types) {
        List<String> names = new ArrayList<>();
        for (Class<?> type : types) {
            names.add(type.getSimpleName());
        }
        return String.join(" ", names);
    }

    private static void otherMembers() {
        CHECKS.due("final", Modifier.isFinal(Schemabridge.class.getModifiers()), true);
        Constructor<?>[] constructors = Schemabridge.class.getDeclaredConstructors();
        CHECKS.due("the constructors", constructors.length, 1);
        CHECKS.due("its parameters", constructors[0].getParameterCount(), 0);
        int constants = 0;
        int fields = 0;
        for (Field field : Schemabridge.class.getDeclaredFields()) {
            int modifiers = field.getModifiers();
            constants += Modifier.isPublic(modifiers) ? 1 : 0;
            fields += Modifier.isStatic(modifiers) ? 0 : 1;
            boolean fits = Modifier.isPublic(modifiers) ? Modifier.isStatic(modifiers) : Modifier.isPrivate(modifiers);
            CHECKS.due("the access of " + field.getName(), fits, true);
            CHECKS.due("final and static of " + field.getName(),
                !Modifier.isStatic(modifiers) || Modifier.isFinal(modifiers), true);
        }
        CHECKS.due("the public constants", constants, 9);
        CHECKS.due("at most twenty fields", fields <= 20, true);
        methodsThatAreNotOfTheFace(Schemabridge.class);
        for (Class<?> inside : Schemabridge.class.getDeclaredClasses()) {
            CHECKS.due(inside.getSimpleName() + " is static", Modifier.isStatic(inside.getModifiers()), true);
            CHECKS.due(inside.getSimpleName() + " is public", Modifier.isPublic(inside.getModifiers()), false);
            CHECKS.due("the fields of " + inside.getSimpleName(), inside.getDeclaredFields().length <= 20, true);
            methodsThatAreNotOfTheFace(inside);
        }
    }

    private static void methodsThatAreNotOfTheFace(Class<?> type) {
        for (Method method : type.getDeclaredMethods()) {
            if (type == Schemabridge.class && !Modifier.isPublic(method.getModifiers())) {
                CHECKS.due(method.getName() + " is private", Modifier.isPrivate(method.getModifiers()), true);
            }
            if (!Modifier.isPublic(method.getModifiers())) {
                CHECKS.due(method.getName() + " bears a public name", NAMES.contains(method.getName()), false);
            }
            CHECKS.due("the parameters of " + method.getName(), method.getParameterCount() <= 7, true);
        }
    }

    private static void text(List<String> lines) {
        List<String> code = new ArrayList<>();
        for (String line : lines) {
            String bare = line.strip();
            boolean isComment = bare.startsWith("//") || bare.startsWith("*") || bare.startsWith("/*");
            code.add(isComment ? "" : line);
        }
        String all = String.join("\n", code);
        String[] outOfBounds = {
            "->", "::", "\\b(try|catch|finally|synchronized|assert|package)\\b", "static \\{", "\\w+Exact\\b",
            "\\bimport (?!java\\.util\\.(Arrays|NoSuchElementException);)", "\\b(Object|System\\.(?!arraycopy))\\b",
            "throw (?!new \\w+\\((\"[^\"]*\")?\\);)", "\\b(Thread|Random|Runtime|Class)\\b"};
        for (String each : outOfBounds) {
            Matcher found = Pattern.compile(each).matcher(all);
            CHECKS.due("what stands in the text of " + each, found.find() ? found.group() : "nothing", "nothing");
        }
        methodLengths(code);
    }

    /** A method's last line is the brace at the indent of its first. */
    private static void methodLengths(List<String> code) {
        for (int line = 0; line < code.size(); line++) {
            Matcher head = Pattern.compile("( {4,8})[\\w\\[\\]]+ .*\\(.*\\{").matcher(code.get(line));
            if (head.matches()) {
                String end = head.group(1) + "}";
                int last = line;
                while (last < code.size() && !code.get(last).equals(end)) {
                    last++;
                }
                CHECKS.due("at most sixty lines from line " + (line + 1), last - line < 60, true);
            }
        }
    }
}
