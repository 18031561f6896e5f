import java.util.ArrayList;
import java.util.Arrays;
import java.util.HashMap;
import java.util.HashSet;
import java.util.List;
import java.util.Map;
import java.util.NoSuchElementException;
import java.util.Set;

/**
 * The document once more, as plainly as the whole Java library allows and in other ways than the class:
 * fields are objects in a list, numbers are longs, and a part is a list of bytes.
 */
final class Model {
    private record Field(int tag, int type, int number, List<Byte> bytes) {
    }

    private static final class Schema {
        final Map<Integer, Integer> kinds = new HashMap<>();
        final Map<Integer, Integer> parts = new HashMap<>();
        final Map<Integer, Integer> defaults = new HashMap<>();
    }

    private static final class Message {
        int schema;
        List<Field> fields = new ArrayList<>();
    }

    /** What became of a list of bytes that was read: its fields, or its first fault and where. */
    private record Reading(List<Field> fields, int fault, int at) {
    }

    private static final class Fault extends Exception {
        private static final long serialVersionUID = 1;
        final int number;

        Fault(int number) {
            this.number = number;
        }
    }

    private static final int[] TYPES = {0, 0, 5, 2, 2};

    private final List<Schema> schemas = new ArrayList<>();
    private final Message[] messages = new Message[12];
    private List<Byte> tape = new ArrayList<>();

    // ---- schemas

    int addSchema() {
        if (schemas.size() == 6) {
            throw new IllegalStateException();
        }
        schemas.add(new Schema());
        return schemas.size() - 1;
    }

    int setKind(int schema, int tag, int kind, int of) {
        Schema changed = schema(schema);
        if (kind == 4) {
            schema(of);
        }
        tag(tag);
        if (kind < 0 || kind > 4) {
            throw new IllegalArgumentException();
        }
        int before = dropKind(schema, tag);
        changed.kinds.put(tag, kind);
        changed.parts.put(tag, of);
        changed.defaults.put(tag, 0);
        return before;
    }

    int dropKind(int schema, int tag) {
        Schema changed = schema(schema);
        tag(tag);
        changed.parts.remove(tag);
        changed.defaults.remove(tag);
        Integer before = changed.kinds.remove(tag);
        return before == null ? -1 : before;
    }

    int setDefault(int schema, int tag, int value) {
        Schema changed = schema(schema);
        tag(tag);
        if (!isInt(changed, tag)) {
            throw new IllegalStateException();
        }
        return changed.defaults.put(tag, value);
    }

    int kindOf(int schema, int tag) {
        Schema asked = schema(schema);
        tag(tag);
        return asked.kinds.getOrDefault(tag, -1);
    }

    int conflict(int schema, int by) {
        schema(schema);
        schema(by);
        List<Integer> asked = List.of(schema, by);
        // Grows until nothing is added: the pairs that differ or lead to one that does.
        Set<List<Integer>> bad = new HashSet<>();
        for (boolean grown = true; grown;) {
            grown = false;
            for (int one = 0; one < schemas.size(); one++) {
                for (int two = 0; two < schemas.size(); two++) {
                    List<Integer> pair = List.of(one, two);
                    if (!pair.equals(asked) && reason(pair, bad) != -1) {
                        grown |= bad.add(pair);
                    }
                }
            }
        }
        return reason(asked, bad);
    }

    private int reason(List<Integer> pair, Set<List<Integer>> bad) {
        Schema one = schemas.get(pair.get(0));
        Schema two = schemas.get(pair.get(1));
        for (int tag = 1; tag <= 31; tag++) {
            if (!one.kinds.containsKey(tag) || !two.kinds.containsKey(tag)) {
                continue;
            }
            int a = one.kinds.get(tag);
            int b = two.kinds.get(tag);
            boolean differ = a <= 2 && b != a || b <= 2 && a != b;
            boolean leads = a == 4 && b == 4 && bad.contains(List.of(one.parts.get(tag), two.parts.get(tag)));
            if (differ || leads) {
                return tag;
            }
        }
        return -1;
    }

    // ---- messages

    int create(int schema) {
        schema(schema);
        return add(schema, new ArrayList<>());
    }

    int copy(int message, int schema) {
        Message copied = message(message);
        schema(schema);
        return add(schema, new ArrayList<>(copied.fields));
    }

    int discard(int message) {
        int count = message(message).fields.size();
        messages[message] = null;
        return count;
    }

    void set(int message, int tag, int value) {
        Message changed = message(message);
        Schema schema = schemas.get(changed.schema);
        if (!isInt(schema, tag)) {
            throw new IllegalArgumentException();
        }
        int kind = schema.kinds.get(tag);
        long doubled = value >= 0 ? 2L * value : -2L * value - 1;
        replace(changed, new Field(tag, TYPES[kind], kind == 1 ? (int) doubled : value, List.of()));
    }

    int append(int message, int tag, byte value) {
        Message changed = message(message);
        if (!isBytes(schemas.get(changed.schema), tag)) {
            throw new IllegalArgumentException();
        }
        Field last = last(changed, tag);
        List<Byte> bytes = new ArrayList<>(last == null ? List.of() : last.bytes);
        bytes.add(value);
        replace(changed, new Field(tag, 2, 0, bytes));
        return bytes.size();
    }

    int setPart(int message, int tag, int other) {
        Message changed = message(message);
        Message source = message(other);
        if (kind(changed, tag) != 4 || schemas.get(changed.schema).parts.get(tag) != source.schema) {
            throw new IllegalArgumentException();
        }
        List<Byte> bytes = bytes(canonical(source.fields, source.schema));
        replace(changed, new Field(tag, 2, 0, bytes));
        return bytes.size();
    }

    int clear(int message, int tag) {
        Message changed = message(message);
        tag(tag);
        int before = changed.fields.size();
        changed.fields.removeIf(field -> field.tag == tag);
        return before - changed.fields.size();
    }

    // ---- what a message has

    int schemaOf(int message) {
        return message(message).schema;
    }

    boolean has(int message, int tag) {
        Message asked = message(message);
        tag(tag);
        return last(asked, tag) != null;
    }

    int get(int message, int tag) {
        Message asked = message(message);
        Schema schema = schemas.get(asked.schema);
        if (!isInt(schema, tag)) {
            throw new IllegalArgumentException();
        }
        Field last = last(asked, tag);
        return last == null ? schema.defaults.get(tag) : value(schema, last);
    }

    byte byteOf(int message, int tag, int place) {
        Message asked = message(message);
        if (!isBytes(schemas.get(asked.schema), tag)) {
            throw new IllegalArgumentException();
        }
        Field last = last(asked, tag);
        if (last == null || place < 0 || place >= last.bytes.size()) {
            throw new NoSuchElementException();
        }
        return last.bytes.get(place);
    }

    int open(int message, int tag) {
        Message asked = message(message);
        if (kind(asked, tag) != 4) {
            throw new IllegalArgumentException();
        }
        Field last = last(asked, tag);
        if (last == null) {
            throw new NoSuchElementException();
        }
        Reading reading = readingOf(last.bytes);
        if (reading.fault != 0) {
            throw new IllegalStateException();
        }
        return add(schemas.get(asked.schema).parts.get(tag), reading.fields);
    }

    int unknowns(int message) {
        return unknown(message(message)).size();
    }

    int unknownTag(int message, int place) {
        List<Field> unknown = unknown(message(message));
        if (place < 0 || place >= unknown.size()) {
            throw new IndexOutOfBoundsException();
        }
        return unknown.get(place).tag;
    }

    int weight(int message) {
        return bytes(message(message).fields).size();
    }

    boolean areSame(int message, int other) {
        Message one = message(message);
        Message two = message(other);
        return canonical(one.fields, one.schema).equals(canonical(two.fields, two.schema));
    }

    boolean areSameByBytes(int message, int other) {
        Message one = message(message);
        Message two = message(other);
        return bytes(canonical(one.fields, one.schema)).equals(bytes(canonical(two.fields, two.schema)));
    }

    // ---- the tape

    int write(int message) {
        Message written = message(message);
        tape = bytes(canonical(written.fields, written.schema));
        return tape.size();
    }

    int put(byte value) {
        if (tape.size() == 120) {
            throw new IllegalStateException();
        }
        tape.add(value);
        return tape.size();
    }

    int cut(int length) {
        int before = tape.size();
        if (length < 0 || length > before) {
            throw new IndexOutOfBoundsException();
        }
        tape = new ArrayList<>(tape.subList(0, length));
        return before - length;
    }

    int length() {
        return tape.size();
    }

    byte byteAt(int place) {
        if (place < 0 || place >= tape.size()) {
            throw new IndexOutOfBoundsException();
        }
        return tape.get(place);
    }

    int fault() {
        return readingOf(tape).fault;
    }

    int faultAt() {
        return readingOf(tape).at;
    }

    int read(int schema) {
        schema(schema);
        Reading reading = readingOf(tape);
        if (reading.fault != 0) {
            throw new IllegalArgumentException();
        }
        return add(schema, reading.fields);
    }

    boolean isCanonical(int schema) {
        schema(schema);
        Reading reading = readingOf(tape);
        return reading.fault == 0 && bytes(canonical(reading.fields, schema)).equals(tape);
    }

    // ---- what the calls share

    private Schema schema(int number) {
        if (number < 0 || number >= schemas.size()) {
            throw new IndexOutOfBoundsException();
        }
        return schemas.get(number);
    }

    private Message message(int number) {
        if (number < 0 || number >= 12 || messages[number] == null) {
            throw new IndexOutOfBoundsException();
        }
        return messages[number];
    }

    private static void tag(int tag) {
        if (tag < 1 || tag > 31) {
            throw new IllegalArgumentException();
        }
    }

    private int kind(Message message, int tag) {
        return schemas.get(message.schema).kinds.getOrDefault(tag, -1);
    }

    private static boolean isInt(Schema schema, int tag) {
        return schema.kinds.getOrDefault(tag, 9) <= 2;
    }

    private static boolean isBytes(Schema schema, int tag) {
        return schema.kinds.getOrDefault(tag, -1) >= 3;
    }

    private static boolean isKnown(Schema schema, Field field) {
        return schema.kinds.containsKey(field.tag) && TYPES[schema.kinds.get(field.tag)] == field.type;
    }

    private static int value(Schema schema, Field field) {
        if (schema.kinds.get(field.tag) != 1) {
            return field.number;
        }
        long unsigned = Integer.toUnsignedLong(field.number);
        return (int) (unsigned % 2 == 0 ? unsigned / 2 : -(unsigned + 1) / 2);
    }

    private Field last(Message message, int tag) {
        Field last = null;
        for (Field field : message.fields) {
            if (field.tag == tag && isKnown(schemas.get(message.schema), field)) {
                last = field;
            }
        }
        return last;
    }

    private List<Field> unknown(Message message) {
        List<Field> unknown = new ArrayList<>(message.fields);
        unknown.removeIf(field -> isKnown(schemas.get(message.schema), field));
        return unknown;
    }

    private int add(int schema, List<Field> fields) {
        int number = Arrays.asList(messages).indexOf(null);
        if (number < 0) {
            throw new IllegalStateException();
        }
        messages[number] = new Message();
        messages[number].schema = schema;
        messages[number].fields = fields;
        return number;
    }

    private void replace(Message message, Field by) {
        List<Field> fields = new ArrayList<>(message.fields);
        fields.removeIf(field -> field.tag == by.tag && isKnown(schemas.get(message.schema), field));
        fields.add(by);
        if (bytes(fields).size() > 120) {
            throw new IllegalStateException();
        }
        message.fields = fields;
    }

    private List<Field> canonical(List<Field> fields, int schemaNumber) {
        Schema schema = schemas.get(schemaNumber);
        List<Field> canonical = new ArrayList<>();
        for (int tag = 1; tag <= 31; tag++) {
            for (int place = 0; place < fields.size(); place++) {
                Field field = fields.get(place);
                if (field.tag == tag && stays(schema, field, fields.subList(place + 1, fields.size()))) {
                    canonical.add(field);
                }
            }
        }
        return canonical;
    }

    private static boolean stays(Schema schema, Field field, List<Field> behind) {
        if (!isKnown(schema, field)) {
            return true;
        }
        for (Field later : behind) {
            if (later.tag == field.tag && isKnown(schema, later)) {
                return false;
            }
        }
        return !isInt(schema, field.tag) || value(schema, field) != schema.defaults.get(field.tag);
    }

    private static List<Byte> bytes(List<Field> fields) {
        List<Byte> bytes = new ArrayList<>();
        for (Field field : fields) {
            group(bytes, 8L * field.tag + field.type);
            if (field.type == 0) {
                group(bytes, Integer.toUnsignedLong(field.number));
            } else if (field.type == 2) {
                group(bytes, field.bytes.size());
                bytes.addAll(field.bytes);
            } else {
                for (int place = 0; place < 4; place++) {
                    bytes.add((byte) (Integer.toUnsignedLong(field.number) / (1L << 8 * place) % 256));
                }
            }
        }
        return bytes;
    }

    private static void group(List<Byte> bytes, long number) {
        long rest = number;
        while (rest >= 128) {
            bytes.add((byte) (rest % 128 + 128));
            rest /= 128;
        }
        bytes.add((byte) rest);
    }

    private static Reading readingOf(List<Byte> bytes) {
        List<Field> fields = new ArrayList<>();
        List<Integer> left = new ArrayList<>();
        for (byte each : bytes) {
            left.add(Byte.toUnsignedInt(each));
        }
        while (!left.isEmpty()) {
            int at = bytes.size() - left.size();
            try {
                fields.add(takeField(left));
            } catch (Fault fault) {
                return new Reading(List.of(), fault.number, at);
            }
        }
        return new Reading(fields, 0, -1);
    }

    private static Field takeField(List<Integer> left) throws Fault {
        long key = takeGroup(left);
        if (key / 8 < 1 || key / 8 > 31) {
            throw new Fault(3);
        }
        int tag = (int) (key / 8);
        int type = (int) (key % 8);
        if (type == 0) {
            return new Field(tag, 0, (int) takeGroup(left), List.of());
        }
        if (type == 2) {
            long count = takeGroup(left);
            List<Byte> bytes = new ArrayList<>();
            for (long taken = 0; taken < count; taken++) {
                bytes.add((byte) take(left));
            }
            return new Field(tag, 2, 0, bytes);
        }
        if (type == 5) {
            long number = 0;
            for (int place = 0; place < 4; place++) {
                number += (long) take(left) << 8 * place;
            }
            return new Field(tag, 5, (int) number, List.of());
        }
        throw new Fault(4);
    }

    private static int take(List<Integer> left) throws Fault {
        if (left.isEmpty()) {
            throw new Fault(1);
        }
        return left.remove(0);
    }

    private static long takeGroup(List<Integer> left) throws Fault {
        long number = 0;
        for (int place = 0;; place++) {
            int each = take(left);
            if (place == 4 && each > 15) {
                throw new Fault(2);
            }
            number += (each % 128L) << 7 * place;
            if (each < 128) {
                return number;
            }
        }
    }
}
