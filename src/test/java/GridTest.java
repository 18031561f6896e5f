import java.lang.reflect.InvocationTargetException;
import java.lang.reflect.Method;
import java.util.ArrayList;
import java.util.Arrays;
import java.util.List;
import java.util.function.Supplier;

/**
 * Each call with each choice of edge numbers as its arguments, in some states: its answer, or which of several exceptions it
 * throws, is that of the model, and what is refused changes nothing.
 */
final class GridTest {
    private static final Checks CHECKS = new Checks("GridTest");
    private static final int LEAST = Integer.MIN_VALUE, GREATEST = Integer.MAX_VALUE;
    private static final Object[] MANY = {LEAST, -1, 0, 1, 2, 3, 4, 5, 6, 11, 12, 30, 31, 32, 119, 120, 121, GREATEST};
    private static final Object[] FEW = {LEAST, -1, 0, 1, 4, 5, 6, 31, 32, GREATEST};
    private static final Object[] BYTES = {(byte) -128, (byte) -1, (byte) 0, (byte) 127};

    /** After so many refused calls the state is looked at; more would bring an object near its 512th call. */
    private static final int TOGETHER = 60;

    private static final String KINDS =
        "addSchema, addSchema, setKind 0 1 0 0, setKind 0 2 1 0, setKind 0 3 2 0, setKind 0 4 3 0, setKind 0 5 4 1, "
        + "setKind 0 31 4 0, setKind 1 1 0 0, setDefault 0 1 5";
    private static final String ROWS = KINDS + ", lay 8 5 13 1 0 0 0 34 3 1 2 3 42 1 8 250 1 2 8 1 10 0, read 0, create 1, "
        + "create 0, discard 1, set 2 1 120, append 2 5 0, lay 8 1 9";
    private static final String FULL = KINDS + ", addSchema, addSchema, addSchema, addSchema, "
        + "lay 34 106" + " 9".repeat(106) + " 8 5 42 2 8 1 250 1 0, "
        + "read 0, copy 0 0, copy 0 1, create 1, create 1, create 0, create 2, create 3, create 4, create 5, read 1, read 0, "
        + "put 48, put 1, put 0";
    private static final String[] STATES = {"", KINDS, ROWS, FULL, FULL + ", discard 11, clear 0 4, cut 119"};

    private final String state;
    private final List<Object[]> refused = new ArrayList<>();
    private final List<Method> refusedMethods = new ArrayList<>();
    private Schemabridge bridge;
    private Model model;
    private int calls;

    private GridTest(String state) {
        this.state = state;
    }

    public static void main(String[] args) throws ReflectiveOperationException {
        for (String state : STATES) {
            new GridTest(state).run();
        }
        CHECKS.end();
    }

    private void run() throws ReflectiveOperationException {
        makeAnew();
        Method[] methods = Schemabridge.class.getDeclaredMethods();
        Arrays.sort(methods, (one, two) -> one.getName().compareTo(two.getName()));
        for (Method method : methods) {
            if (java.lang.reflect.Modifier.isPublic(method.getModifiers())) {
                askAll(method, new Object[method.getParameterCount()], 0);
                lookAtTheState();
            }
        }
    }

    private void makeAnew() throws ReflectiveOperationException {
        bridge = new Schemabridge();
        model = new Model();
        play(bridge);
        play(model);
        calls = 0;
    }

    /** Fills in the arguments from the given one on, and asks with each choice of them. */
    private void askAll(Method method, Object[] arguments, int from) throws ReflectiveOperationException {
        if (from == arguments.length) {
            ask(method, arguments.clone());
            return;
        }
        boolean isByte = method.getParameterTypes()[from] == byte.class;
        for (Object each : isByte ? BYTES : arguments.length > 2 ? FEW : MANY) {
            arguments[from] = each;
            askAll(method, arguments, from + 1);
        }
    }

    private void ask(Method method, Object[] arguments) throws ReflectiveOperationException {
        Method due = Model.class.getDeclaredMethod(method.getName(), method.getParameterTypes());
        String want = answer(due, model, arguments);
        String got = answer(method, bridge, arguments);
        CHECKS.due(method.getName() + Arrays.toString(arguments) + " after " + state, got, want);
        calls++;
        if (want.endsWith("Exception")) {
            refused.add(arguments);
            refusedMethods.add(method);
            if (refused.size() == TOGETHER) {
                lookAtTheState();
            }
        } else {
            makeAnew();
        }
        if (calls == TOGETHER) {
            makeAnew();
        }
    }

    private void lookAtTheState() {
        Supplier<Schemabridge> before = () -> {
            Schemabridge x = new Schemabridge();
            play(x);
            return x;
        };
        Supplier<Schemabridge> after = () -> {
            Schemabridge x = before.get();
            for (int each = 0; each < refused.size(); each++) {
                answer(refusedMethods.get(each), x, refused.get(each));
            }
            return x;
        };
        if (!refused.isEmpty()) {
            String what = refusedMethods.get(0).getName() + Arrays.toString(refused.get(0)) + " and what follows it";
            CHECKS.due("the state after " + what + " after " + state, State.tell(after), State.tell(before));
        }
        refused.clear();
        refusedMethods.clear();
    }

    private static String answer(Method method, Object asked, Object[] arguments) {
        try {
            return "" + method.invoke(asked, arguments);
        } catch (InvocationTargetException e) {
            return e.getCause().getClass().getSimpleName();
        } catch (IllegalAccessException e) {
            throw new IllegalStateException(e);
        }
    }

    /** Calls that are parted by commas, their arguments by spaces; lay puts a whole row on the tape. */
    private void play(Object on) {
        for (String call : state.isEmpty() ? new String[0] : state.split(", ")) {
            String[] words = call.split(" ");
            if (words[0].equals("lay")) {
                play(on, "cut", "0");
                for (int word = 1; word < words.length; word++) {
                    play(on, "put", words[word]);
                }
            } else {
                play(on, words[0], Arrays.copyOfRange(words, 1, words.length));
            }
        }
    }

    private static void play(Object on, String name, String... words) {
        for (Method method : on.getClass().getDeclaredMethods()) {
            Class<?>[] types = method.getParameterTypes();
            if (method.getName().equals(name) && types.length == words.length) {
                Object[] arguments = new Object[words.length];
                for (int each = 0; each < words.length; each++) {
                    int number = Integer.parseInt(words[each]);
                    arguments[each] = types[each] == byte.class ? (Object) (byte) number : (Object) number;
                }
                answer(method, on, arguments);
            }
        }
    }
}
