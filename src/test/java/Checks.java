import java.util.NoSuchElementException;

/** Counts the calls whose answer is not the one that is due, and tells each of them. */
final class Checks {
    static final Class<?> PLACE = IndexOutOfBoundsException.class;
    static final Class<?> ARGUMENT = IllegalArgumentException.class;
    static final Class<?> STATE = IllegalStateException.class;
    static final Class<?> ABSENT = NoSuchElementException.class;

    interface Call {
        Object answer();
    }

    private final String name;
    private int made;
    private int wrong;

    Checks(String name) {
        this.name = name;
    }

    void due(String what, Object got, Object want) {
        made++;
        if (!want.equals(got)) {
            wrong++;
            System.out.println(name + ": " + what + " answered " + got + ", due is " + want);
        }
    }

    void thrown(String what, Class<?> want, Call call) {
        due(what, thrownBy(call), want.getSimpleName());
    }

    /** For calls that answer nothing. */
    void thrown(String what, Class<?> want, Runnable call) {
        due(what, thrownBy(() -> {
            call.run();
            return "nothing";
        }), want.getSimpleName());
    }

    /** The simple name, so that an exception of the machine's own, a class below the due one, is told apart. */
    static Object thrownBy(Call call) {
        try {
            return "no exception but " + call.answer();
        } catch (RuntimeException e) {
            return e.getClass().getSimpleName();
        }
    }

    void end() {
        System.out.println(name + ": " + made + " checks, " + wrong + " wrong");
        if (wrong != 0 || made == 0) {
            System.exit(1);
        }
    }
}
