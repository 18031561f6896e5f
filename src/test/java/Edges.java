import java.lang.reflect.InvocationTargetException;
import java.lang.reflect.Method;
import java.lang.reflect.Modifier;
import java.util.ArrayList;
import java.util.Comparator;
import java.util.List;
import java.util.function.Consumer;
import java.util.function.Supplier;

/**
 * What the edge tests share. Each of their methods is a test of its own: it begins with the words of the document that it
 * belongs to, so that a reader finds it from the document (by the promise's number or by the words) and the other way round.
 */
abstract class Edges {
    static final int LEAST = Integer.MIN_VALUE, GREATEST = Integer.MAX_VALUE;
    static final int NONE = Schemabridge.NONE, PLAIN = Schemabridge.PLAIN, SIGNED = Schemabridge.SIGNED;
    static final int FOUR = Schemabridge.FOUR, TEXT = Schemabridge.TEXT, PART = Schemabridge.PART;
    static final Class<?> PLACE = Checks.PLACE, ARGUMENT = Checks.ARGUMENT, STATE = Checks.STATE, ABSENT = Checks.ABSENT;
    static final Checks CHECKS = new Checks("EdgesTest");

    /** No tags, and no tags of any kind: what a row of 31, or of 32, would wrap around to is among them. */
    static final int[] NO_TAGS = {0, 32, -1, 33, 64, -31, LEAST, LEAST + 1, GREATEST};
    static final int[] NO_MESSAGES_OF_BUSY = {-1, 1, 3, 11, 12, LEAST, LEAST + 2, GREATEST};
    static final int[] NO_SCHEMAS_OF_BUSY = {-1, 2, 5, 6, LEAST, LEAST + 1, GREATEST};
    static final Supplier<Schemabridge> BUSY = Bridges::busy, FULL = Bridges::full;

    private static Doc doc;
    private static String test = "";
    private static String words = "";

    /** Runs every test of a class of edges, and sees to it that each says which words it belongs to. */
    static void runAll(Class<?> edges, Doc document) throws IllegalAccessException {
        doc = document;
        List<Method> tests = new ArrayList<>();
        for (Method method : edges.getDeclaredMethods()) {
            if (Modifier.isStatic(method.getModifiers()) && method.getName().matches("(promise|terms|whatItIs).*")) {
                tests.add(method);
            }
        }
        tests.sort(Comparator.comparing(Method::getName));
        for (Method each : tests) {
            run(each);
        }
    }

    private static void run(Method method) throws IllegalAccessException {
        test = method.getName();
        words = "";
        method.setAccessible(true);
        try {
            method.invoke(null);
        } catch (InvocationTargetException e) {
            due("ends without " + e.getCause(), false, true);
        }
        due("says which words it belongs to", words.isEmpty(), false);
    }

    static void promise(int promise, String quote) {
        of("Promise " + promise, quote);
        due("bears the number " + promise, test.matches("promise" + promise + "\\D.*"), true);
    }

    static void terms(String quote) {
        of("Terms", quote);
        due("bears the name of the terms", test.startsWith("terms"), true);
    }

    static void of(String section, String quote) {
        words = section + ", \"" + quote + "\"";
        due("the document says so", doc.says(section, quote), true);
    }

    static void due(String what, Object got, Object want) {
        CHECKS.due(test + " (" + words + "): " + what, got, want);
    }

    /** The call throws, on an object that is made anew, and leaves all as it was. */
    static void refused(Class<?> want, String what, Supplier<Schemabridge> made, Consumer<Schemabridge> call) {
        due(what, thrownBy(made.get(), call), want.getSimpleName());
        due(what + ": what stands after it", State.tell(() -> {
            Schemabridge x = made.get();
            thrownBy(x, call);
            return x;
        }), State.of(made));
    }

    /** The call throws nothing. */
    static void taken(String what, Schemabridge x, Consumer<Schemabridge> call) {
        due(what, thrownBy(x, call), "nothing thrown");
    }

    private static Object thrownBy(Schemabridge x, Consumer<Schemabridge> call) {
        try {
            call.accept(x);
            return "nothing thrown";
        } catch (RuntimeException e) {
            return e.getClass().getSimpleName();
        }
    }
}
