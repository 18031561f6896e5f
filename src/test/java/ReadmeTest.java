import java.io.IOException;
import java.lang.reflect.Method;
import java.lang.reflect.Modifier;
import java.nio.charset.StandardCharsets;
import java.nio.file.Files;
import java.nio.file.Path;
import java.util.ArrayList;
import java.util.List;
import java.util.Set;
import java.util.TreeSet;
import java.util.regex.Matcher;
import java.util.regex.Pattern;
import java.util.stream.Stream;

/**
 * What README.md shows of the use of the class holds as it is written there: its blocks are compiled and run by its own
 * commands, one after the other as one program, and each comment is compared with what the call does. The README's path is
 * the third argument.
 */
final class ReadmeTest {
    private static final Checks CHECKS = new Checks("ReadmeTest");
    private static final Pattern STATEMENT = Pattern.compile("((?:int (\\w+) = )?(.*));(?: +// (.*))?");
    private static final Pattern ANSWER = Pattern.compile("-> (-?\\w+)(?:, (.*))?");
    private static final Pattern THROWN = Pattern.compile("throws (\\w+)(?:: .*)?");
    private static final Pattern TAPE = Pattern.compile("tape: ([\\d ]*\\d)");
    private static final String HEAD = """
        public final class Yours {
            private static int checks;
            private static void due(String line, Object got, String want) {
                checks++;
                if (!want.equals("" + got)) {
                    System.out.println(line + " - but it is " + got);
                }
            }
            private static String tape(Schemabridge bridge) {
                StringBuilder told = new StringBuilder();
                for (int place = 0; place < bridge.length(); place++) {
                    told.append(place == 0 ? "" : " ").append(bridge.byteAt(place) & 255);
                }
                return told.toString();
            }
            public static void main(String[] args) {
        """;
    private static final String TAIL = """
                System.out.println("checks: " + checks);
            }
        }
        """;

    public static void main(String[] args) throws IOException, InterruptedException {
        Path file = Path.of(args[2]);
        List<String> readme = Files.readAllLines(file);
        List<String> shown = shown(readme);
        everyCallIsShown(shown);
        runAsShown(readme, shown, Path.of(args[0]));
        testsAreNamed(readme, file.resolveSibling("src/test/java"));
        CHECKS.end();
    }

    /** The lines of all blocks of Java. */
    private static List<String> shown(List<String> readme) {
        List<String> shown = new ArrayList<>();
        boolean isShown = false;
        for (String line : readme) {
            if (line.startsWith("```")) {
                isShown = line.equals("```java");
            } else if (isShown && !line.isEmpty()) {
                shown.add(line);
            }
        }
        return shown;
    }

    private static void everyCallIsShown(List<String> shown) {
        String all = String.join("\n", shown);
        for (Method method : Schemabridge.class.getDeclaredMethods()) {
            if (Modifier.isPublic(method.getModifiers())) {
                CHECKS.due("shows " + method.getName(), all.contains("bridge." + method.getName() + "("), true);
            }
        }
        for (Class<?> thrown : new Class<?>[] {Checks.PLACE, Checks.ARGUMENT, Checks.STATE, Checks.ABSENT}) {
            CHECKS.due("shows " + thrown.getSimpleName(), all.contains("// throws " + thrown.getSimpleName()), true);
        }
    }

    private static void runAsShown(List<String> readme, List<String> shown, Path theClass) throws IOException, InterruptedException {
        StringBuilder program = new StringBuilder(HEAD);
        int checks = 0;
        for (String line : shown) {
            checks += addLine(program, line);
        }
        Path work = Files.createTempDirectory("readme");
        Path copied = work.resolve("src/main/java/Schemabridge.java");
        Files.createDirectories(copied.getParent());
        Files.copy(theClass, copied);
        Files.writeString(work.resolve("Yours.java"), program.append(TAIL));
        List<String> printed = new ArrayList<>();
        int commands = 0;
        for (String line : readme) {
            if (line.matches(" {4}javac? .*")) {
                commands++;
                printed.addAll(run(line.strip(), work));
            }
        }
        CHECKS.due("how many commands compile and run it", commands, 2);
        CHECKS.due("what the program finds", printed, List.of("checks: " + checks));
        CHECKS.due("shows answers", checks > 32, true);
        remove(work);
    }

    /** Adds a line to the program, with the checks that its comment asks for; answers how many these are. */
    private static int addLine(StringBuilder program, String line) {
        Matcher statement = STATEMENT.matcher(line);
        boolean isStatement = statement.matches();
        CHECKS.due("is a statement: " + line, isStatement, true);
        String comment = isStatement ? statement.group(4) : null;
        if (comment == null) {
            program.append(line).append('\n');
            return 0;
        }
        Matcher thrown = THROWN.matcher(comment);
        if (thrown.matches()) {
            addThrown(program, line, statement.group(1), thrown.group(1));
            return 1;
        }
        Matcher answer = ANSWER.matcher(comment);
        boolean isAnswer = answer.matches();
        CHECKS.due("says what can be checked: " + line, isAnswer, true);
        if (!isAnswer) {
            return 0;
        }
        String name = statement.group(2);
        program.append(name == null ? "" : statement.group(1) + ";\n");
        addDue(program, line, name == null ? statement.group(3) : name, answer.group(1));
        Matcher tape = TAPE.matcher(answer.group(2) == null ? "" : answer.group(2));
        if (tape.find()) {
            addDue(program, line, "tape(bridge)", tape.group(1));
            return 2;
        }
        return 1;
    }

    private static void addThrown(StringBuilder program, String line, String call, String thrown) {
        program.append("try {\n").append(call).append(";\n");
        addDue(program, line, "\"nothing thrown\"", thrown);
        program.append("} catch (RuntimeException e) {\n");
        addDue(program, line, "e.getClass().getSimpleName()", thrown);
        program.append("}\n");
    }

    private static void addDue(StringBuilder program, String line, String got, String want) {
        String told = line.replace("\\", "\\\\").replace("\"", "\\\"");
        program.append("due(\"").append(told).append("\", ").append(got).append(", \"").append(want).append("\");\n");
    }

    /** Runs a command in a directory; answers the lines that it prints, but not what the machine says beside them. */
    private static List<String> run(String command, Path work) throws IOException, InterruptedException {
        ProcessBuilder builder = new ProcessBuilder(command.split(" ")).directory(work.toFile());
        Process process = builder.redirectError(ProcessBuilder.Redirect.INHERIT).start();
        String printed = new String(process.getInputStream().readAllBytes(), StandardCharsets.UTF_8);
        CHECKS.due(command + " ends with", process.waitFor(), 0);
        return printed.lines().toList();
    }

    private static void remove(Path directory) throws IOException {
        List<Path> all;
        try (Stream<Path> walked = Files.walk(directory)) {
            all = new ArrayList<>(walked.toList());
        }
        for (int each = all.size() - 1; each >= 0; each--) {
            Files.delete(all.get(each));
        }
    }

    private static void testsAreNamed(List<String> readme, Path tests) throws IOException {
        Set<String> named = new TreeSet<>();
        for (String line : readme) {
            Matcher row = Pattern.compile("\\| `(\\w+)` \\|.*").matcher(line);
            if (row.matches()) {
                named.add(row.group(1));
            }
        }
        Set<String> standing = new TreeSet<>();
        try (Stream<Path> files = Files.list(tests)) {
            for (Path each : files.toList()) {
                String name = each.getFileName().toString();
                if (name.endsWith("Test.java")) {
                    standing.add(name.substring(0, name.length() - ".java".length()));
                }
            }
        }
        CHECKS.due("the tests that README.md names", named, standing);
    }
}
