import java.util.IdentityHashMap;
import java.util.Map;
import java.util.function.Supplier;

/**
 * The whole state of an object in words, told through its face alone: the tape, the kinds, the parts and the defaults
 * of all schemas, and the rows of all messages. Telling it takes many calls and changes much, so that each piece is told
 * by an object of its own, which the supplier makes anew.
 */
final class State {
    private static final Map<Supplier<Schemabridge>, String> TOLD = new IdentityHashMap<>();

    private State() {
    }

    /** Told once for each supplier, which makes the same object each time. */
    static String of(Supplier<Schemabridge> made) {
        return TOLD.computeIfAbsent(made, State::tell);
    }

    /** For a supplier that is asked once alone. */
    static String tell(Supplier<Schemabridge> made) {
        StringBuilder told = new StringBuilder("tape " + Bridges.told(made.get()));
        for (int schema = 0; schema < 6; schema++) {
            told.append("; schema ").append(schema).append(':').append(schema(made.get(), schema));
        }
        for (int message = 0; message < 12; message++) {
            told.append("; message ").append(message).append(':').append(message(made.get(), message));
        }
        return told.toString();
    }

    private static String schema(Schemabridge x, int schema) {
        StringBuilder told = new StringBuilder();
        try {
            for (int tag = 1; tag <= 31; tag++) {
                int kind = x.kindOf(schema, tag);
                if (kind != Schemabridge.NONE) {
                    told.append(" tag ").append(tag).append(" kind ").append(kind);
                }
                if (kind == Schemabridge.PART) {
                    told.append(" of ").append(partOf(x, schema, tag));
                } else if (kind == Schemabridge.PLAIN || kind == Schemabridge.SIGNED || kind == Schemabridge.FOUR) {
                    told.append(" default ").append(x.setDefault(schema, tag, 0));
                }
            }
            return told.append(" end").toString();
        } catch (IndexOutOfBoundsException e) {
            return " none";
        }
    }

    /** The schema that an empty part is opened with; two messages make room for that. */
    private static int partOf(Schemabridge x, int schema, int tag) {
        Checks.thrownBy(() -> x.discard(10));
        Checks.thrownBy(() -> x.discard(11));
        x.cut(0);
        int key = 8 * tag + Schemabridge.BYTES;
        if (key < 128) {
            x.put((byte) key);
        } else {
            x.put((byte) (key % 128 + 128));
            x.put((byte) (key / 128));
        }
        x.put((byte) 0);
        int outer = x.read(schema);
        int inner = x.open(outer, tag);
        int part = x.schemaOf(inner);
        x.discard(outer);
        x.discard(inner);
        return part;
    }

    /** Without any kinds all fields are unknown: so their tags are told in order, and all of them are written. */
    private static String message(Schemabridge x, int message) {
        try {
            int schema = x.schemaOf(message);
            StringBuilder told = new StringBuilder(" schema " + schema + " weight " + x.weight(message) + " tags");
            for (int tag = 1; tag <= 31; tag++) {
                x.dropKind(schema, tag);
            }
            return told.append(Bridges.unknownTags(x, message)).append(" row ").append(Bridges.written(x, message)).toString();
        } catch (IndexOutOfBoundsException e) {
            return " none";
        }
    }
}
