import java.util.Arrays;
import java.util.NoSuchElementException;

/**
 * A wire format with tags: messages are fields with tags, schemas say what fields mean, and a reader
 * with an older schema keeps and passes on what it does not know.
 *
 * <p>A message is held as the bytes of all its fields, one after the other as they are written; so its
 * weight is the length of its row, and a field that its schema does not know needs no care of its own.
 */
public final class Schemabridge {
    public static final int NUMBER = 0, BYTES = 2, FIXED = 5;
    public static final int PLAIN = 0, SIGNED = 1, FOUR = 2, TEXT = 3, PART = 4;
    public static final int NONE = -1;

    private static final int MOST_SCHEMAS = 6;
    private static final int MOST_PAIRS = 36;
    private static final int MOST_MESSAGES = 12;
    private static final int MOST_BYTES = 120;
    private static final int LAST_TAG = 31;

    // No field takes less than two bytes: its key, and a number or a count.
    private static final int MOST_FIELDS = 60;

    // A draft may hold a whole message, a key, a count and a whole part before its weight is judged.
    private static final int ROOM = 256;

    private static final int NO_FAULT = 0;
    private static final int CUT_SHORT = 1;
    private static final int FIFTH_TOO_LARGE = 2;
    private static final int WRONG_TAG = 3;
    private static final int WRONG_TYPE = 4;

    private final Schema[] schemas = new Schema[MOST_SCHEMAS];
    private final Message[] messages = new Message[MOST_MESSAGES];
    private final Bytes tape = new Bytes();
    private int schemaCount;

    // Room to work in, used again by every call so that the calls make next to no objects.
    private final PairSearch pairSearch = new PairSearch();
    private final Fields scanned = new Fields();
    private final Canon canon = new Canon();
    private final Canon otherCanon = new Canon();
    private final Bytes canonical = new Bytes();
    private final Bytes otherCanonical = new Bytes();
    private final Bytes draft = new Bytes();

    public Schemabridge() {
    }

    // ---- schemas

    public int addSchema() throws IllegalStateException {
        int number = schemaCount;
        if (number < 0 || number >= schemas.length) {
            throw new IllegalStateException("there are 6 schemas");
        }
        schemas[number] = new Schema(number);
        schemaCount++;
        return number;
    }

    public int setKind(int schema, int tag, int kind, int of) throws IndexOutOfBoundsException, IllegalArgumentException {
        Schema changed = schemaAt(schema);
        Schema part = kind == PART ? schemaAt(of) : null;
        checkTag(tag);
        if (kind < PLAIN || kind > PART) {
            throw new IllegalArgumentException("there is no such kind");
        }
        int before = changed.kindAt(tag);
        changed.giveKind(tag, kind, part);
        return before;
    }

    public int dropKind(int schema, int tag) throws IndexOutOfBoundsException, IllegalArgumentException {
        Schema changed = schemaAt(schema);
        checkTag(tag);
        int before = changed.kindAt(tag);
        changed.giveKind(tag, NONE, null);
        return before;
    }

    public int setDefault(int schema, int tag, int value) throws IndexOutOfBoundsException, IllegalArgumentException, IllegalStateException {
        Schema changed = schemaAt(schema);
        checkTag(tag);
        if (!changed.hasInt(tag)) {
            throw new IllegalStateException("the kind of the tag has no default");
        }
        int before = changed.defaultAt(tag);
        changed.giveDefault(tag, value);
        return before;
    }

    public int kindOf(int schema, int tag) throws IndexOutOfBoundsException, IllegalArgumentException {
        Schema asked = schemaAt(schema);
        checkTag(tag);
        return asked.kindAt(tag);
    }

    public int conflict(int schema, int by) throws IndexOutOfBoundsException {
        return pairSearch.leastReason(schemaAt(schema), schemaAt(by));
    }

    // ---- messages

    public int create(int schema) throws IndexOutOfBoundsException, IllegalStateException {
        return addMessage(new Message(schemaAt(schema)));
    }

    public int copy(int message, int schema) throws IndexOutOfBoundsException, IllegalStateException {
        Message copied = messageAt(message);
        Message made = new Message(schemaAt(schema));
        made.row.replaceBy(copied.row);
        return addMessage(made);
    }

    public int discard(int message) throws IndexOutOfBoundsException {
        int count = fieldsOf(messageAt(message)).count();
        removeMessage(message);
        return count;
    }

    public void set(int message, int tag, int value) throws IndexOutOfBoundsException, IllegalArgumentException, IllegalStateException {
        Message changed = messageAt(message);
        checkHasInt(changed.schema, tag);
        draftWithoutKnown(fieldsOf(changed), changed.schema, tag);
        draft.addNumberField(tag, changed.schema.typeAt(tag), changed.schema.numberOf(tag, value));
        takeDraft(changed);
    }

    public int append(int message, int tag, byte value) throws IndexOutOfBoundsException, IllegalArgumentException, IllegalStateException {
        Message changed = messageAt(message);
        checkHasBytes(changed.schema, tag);
        Fields fields = fieldsOf(changed);
        int last = fields.lastKnown(changed.schema, tag);
        int count = fields.bytesAt(last) + 1;
        draftWithoutKnown(fields, changed.schema, tag);
        draft.addBytesHead(tag, count);
        draft.addRange(changed.row, fields.bytesBeginAt(last), fields.endAt(last));
        draft.add(value);
        takeDraft(changed);
        return count;
    }

    public int setPart(int message, int tag, int other) throws IndexOutOfBoundsException, IllegalArgumentException, IllegalStateException {
        Message changed = messageAt(message);
        Message source = messageAt(other);
        if (partAt(changed.schema, tag) != source.schema) {
            throw new IllegalArgumentException("the other message has not the schema of the part");
        }
        canon.choose(source.row, source.schema);
        canon.writeTo(canonical);
        draftWithoutKnown(fieldsOf(changed), changed.schema, tag);
        draft.addBytesHead(tag, canonical.count());
        draft.addRange(canonical, 0, canonical.count());
        takeDraft(changed);
        return canonical.count();
    }

    public int clear(int message, int tag) throws IndexOutOfBoundsException, IllegalArgumentException {
        Message changed = messageAt(message);
        checkTag(tag);
        Fields fields = fieldsOf(changed);
        draft.keepFirst(0);
        int removed = 0;
        for (int place = 0; place < fields.count(); place++) {
            if (fields.tagAt(place) == tag) {
                removed++;
            } else {
                fields.writeTo(draft, place);
            }
        }
        changed.row.replaceBy(draft);
        return removed;
    }

    // ---- what a message has

    public int schemaOf(int message) throws IndexOutOfBoundsException {
        return messageAt(message).schema.number;
    }

    public boolean has(int message, int tag) throws IndexOutOfBoundsException, IllegalArgumentException {
        Message asked = messageAt(message);
        checkTag(tag);
        return fieldsOf(asked).lastKnown(asked.schema, tag) != NONE;
    }

    public int get(int message, int tag) throws IndexOutOfBoundsException, IllegalArgumentException {
        Message asked = messageAt(message);
        checkHasInt(asked.schema, tag);
        Fields fields = fieldsOf(asked);
        int last = fields.lastKnown(asked.schema, tag);
        return last == NONE ? asked.schema.defaultAt(tag) : asked.schema.valueOf(tag, fields.numberAt(last));
    }

    public byte byteOf(int message, int tag, int place) throws IndexOutOfBoundsException, IllegalArgumentException, java.util.NoSuchElementException {
        Message asked = messageAt(message);
        checkHasBytes(asked.schema, tag);
        Fields fields = fieldsOf(asked);
        int last = lastKnownOrThrow(fields, asked.schema, tag);
        if (place < 0 || place >= fields.bytesAt(last)) {
            throw new NoSuchElementException("there is no such byte");
        }
        return asked.row.at(fields.bytesBeginAt(last) + place);
    }

    public int open(int message, int tag) throws IndexOutOfBoundsException, IllegalArgumentException, java.util.NoSuchElementException, IllegalStateException {
        Message asked = messageAt(message);
        Schema part = partAt(asked.schema, tag);
        Fields fields = fieldsOf(asked);
        int last = lastKnownOrThrow(fields, asked.schema, tag);
        Fields inner = fieldsIn(asked.row, fields.bytesBeginAt(last), fields.endAt(last));
        if (inner.problem() != NO_FAULT) {
            throw new IllegalStateException("the bytes of the part have a fault");
        }
        return addMessage(messageOf(inner, part));
    }

    public int unknowns(int message) throws IndexOutOfBoundsException {
        Message asked = messageAt(message);
        Fields fields = fieldsOf(asked);
        int count = 0;
        for (int place = 0; place < fields.count(); place++) {
            if (!fields.isKnown(asked.schema, place)) {
                count++;
            }
        }
        return count;
    }

    public int unknownTag(int message, int place) throws IndexOutOfBoundsException {
        Message asked = messageAt(message);
        Fields fields = fieldsOf(asked);
        int before = 0;
        for (int each = 0; each < fields.count(); each++) {
            if (!fields.isKnown(asked.schema, each)) {
                if (before == place) {
                    return fields.tagAt(each);
                }
                before++;
            }
        }
        throw new IndexOutOfBoundsException("there is no such unknown field");
    }

    public int weight(int message) throws IndexOutOfBoundsException {
        return messageAt(message).row.count();
    }

    public boolean areSame(int message, int other) throws IndexOutOfBoundsException {
        chooseBoth(messageAt(message), messageAt(other));
        return canon.hasSameFields(otherCanon);
    }

    public boolean areSameByBytes(int message, int other) throws IndexOutOfBoundsException {
        chooseBoth(messageAt(message), messageAt(other));
        canon.writeTo(canonical);
        otherCanon.writeTo(otherCanonical);
        return canonical.isSameAs(otherCanonical);
    }

    // ---- the tape

    public int write(int message) throws IndexOutOfBoundsException {
        Message written = messageAt(message);
        canon.choose(written.row, written.schema);
        canon.writeTo(tape);
        return tape.count();
    }

    public int put(byte value) throws IllegalStateException {
        if (tape.count() >= MOST_BYTES) {
            throw new IllegalStateException("the tape has 120 bytes");
        }
        tape.add(value);
        return tape.count();
    }

    public int cut(int length) throws IndexOutOfBoundsException {
        int before = tape.count();
        if (length < 0 || length > before) {
            throw new IndexOutOfBoundsException("the tape has no such length");
        }
        tape.keepFirst(length);
        return before - length;
    }

    public int length() {
        return tape.count();
    }

    public byte byteAt(int place) throws IndexOutOfBoundsException {
        if (place < 0 || place >= tape.count()) {
            throw new IndexOutOfBoundsException("there is no such byte");
        }
        return tape.at(place);
    }

    public int fault() {
        return fieldsOfTape().problem();
    }

    public int faultAt() {
        return fieldsOfTape().problemAt();
    }

    public int read(int schema) throws IndexOutOfBoundsException, IllegalArgumentException, IllegalStateException {
        Schema by = schemaAt(schema);
        Fields fields = fieldsOfTape();
        if (fields.problem() != NO_FAULT) {
            throw new IllegalArgumentException("the tape has a fault");
        }
        return addMessage(messageOf(fields, by));
    }

    public boolean isCanonical(int schema) throws IndexOutOfBoundsException {
        Schema by = schemaAt(schema);
        if (fieldsOfTape().problem() != NO_FAULT) {
            return false;
        }
        canon.choose(tape, by);
        canon.writeTo(canonical);
        return canonical.isSameAs(tape);
    }

    // ---- what the calls share

    private Schema schemaAt(int number) {
        if (number < 0 || number >= schemas.length || schemas[number] == null) {
            throw new IndexOutOfBoundsException("there is no such schema");
        }
        return schemas[number];
    }

    private Message messageAt(int number) {
        if (number < 0 || number >= messages.length || messages[number] == null) {
            throw new IndexOutOfBoundsException("there is no such message");
        }
        return messages[number];
    }

    private static boolean isTag(int tag) {
        return tag >= 1 && tag <= LAST_TAG;
    }

    private static void checkTag(int tag) {
        if (!isTag(tag)) {
            throw new IllegalArgumentException("tag is not 1 to 31");
        }
    }

    private static void checkHasInt(Schema schema, int tag) {
        if (!schema.hasInt(tag)) {
            throw new IllegalArgumentException("the tag has not PLAIN, SIGNED or FOUR");
        }
    }

    private static void checkHasBytes(Schema schema, int tag) {
        if (!schema.hasBytes(tag)) {
            throw new IllegalArgumentException("the tag has not TEXT or PART");
        }
    }

    private static Schema partAt(Schema schema, int tag) {
        Schema part = schema.partOf(tag);
        if (part == null) {
            throw new IllegalArgumentException("the tag has not PART");
        }
        return part;
    }

    private static int lastKnownOrThrow(Fields fields, Schema schema, int tag) {
        int last = fields.lastKnown(schema, tag);
        if (last == NONE) {
            throw new NoSuchElementException("the message has nothing for the tag");
        }
        return last;
    }

    private Fields fieldsOf(Message message) {
        return fieldsIn(message.row, 0, message.row.count());
    }

    private Fields fieldsOfTape() {
        return fieldsIn(tape, 0, tape.count());
    }

    // There is one room for all: the fields of one scan are gone with the next.
    private Fields fieldsIn(Bytes row, int begin, int end) {
        scanned.scan(row, begin, end);
        return scanned;
    }

    private void chooseBoth(Message one, Message another) {
        canon.choose(one.row, one.schema);
        otherCanon.choose(another.row, another.schema);
    }

    private static Message messageOf(Fields fields, Schema schema) {
        Message made = new Message(schema);
        for (int place = 0; place < fields.count(); place++) {
            fields.writeTo(made.row, place);
        }
        return made;
    }

    private int addMessage(Message made) {
        for (int number = 0; number < messages.length; number++) {
            if (messages[number] == null) {
                messages[number] = made;
                return number;
            }
        }
        throw new IllegalStateException("there are 12 messages");
    }

    private void removeMessage(int number) {
        if (number >= 0 && number < messages.length) {
            messages[number] = null;
        }
    }

    private void draftWithoutKnown(Fields fields, Schema schema, int tag) {
        draft.keepFirst(0);
        for (int place = 0; place < fields.count(); place++) {
            if (fields.tagAt(place) != tag || !fields.isKnown(schema, place)) {
                fields.writeTo(draft, place);
            }
        }
    }

    // A change is drafted first, so that one that would weigh too much leaves the message as it is.
    private void takeDraft(Message changed) {
        if (draft.count() > MOST_BYTES) {
            throw new IllegalStateException("the weight would be above 120");
        }
        changed.row.replaceBy(draft);
    }

    /** What the fields with a tag mean. */
    private static final class Schema {
        final int number;
        private final int[] kinds = new int[LAST_TAG + 1];
        // Kept beside the kinds, as each field that is looked at asks for the type.
        private final int[] types = new int[LAST_TAG + 1];
        private final int[] defaults = new int[LAST_TAG + 1];
        private final Schema[] parts = new Schema[LAST_TAG + 1];

        Schema(int number) {
            this.number = number;
            Arrays.fill(kinds, NONE);
            Arrays.fill(types, NONE);
        }

        int kindAt(int tag) {
            return isTag(tag) ? kinds[tag] : NONE;
        }

        int defaultAt(int tag) {
            return isTag(tag) ? defaults[tag] : 0;
        }

        /** The schema of the part with a tag; null if the tag has not PART. */
        Schema partOf(int tag) {
            return isTag(tag) ? parts[tag] : null;
        }

        void giveKind(int tag, int kind, Schema part) {
            if (isTag(tag)) {
                kinds[tag] = kind;
                types[tag] = typeOfKind(kind);
                defaults[tag] = 0;
                parts[tag] = part;
            }
        }

        void giveDefault(int tag, int value) {
            if (isTag(tag)) {
                defaults[tag] = value;
            }
        }

        boolean hasInt(int tag) {
            return isIntKind(kindAt(tag));
        }

        boolean hasBytes(int tag) {
            return typeAt(tag) == BYTES;
        }

        /** The type of the known fields with a tag; NONE, which no field has, without a kind. */
        int typeAt(int tag) {
            return isTag(tag) ? types[tag] : NONE;
        }

        int numberOf(int tag, int value) {
            return kindAt(tag) == SIGNED ? (value << 1) ^ (value >> 31) : value;
        }

        int valueOf(int tag, int number) {
            return kindAt(tag) == SIGNED ? (number >>> 1) ^ -(number & 1) : number;
        }

        boolean isDefault(int tag, int number) {
            return hasInt(tag) && valueOf(tag, number) == defaultAt(tag);
        }

        boolean differsAt(Schema other, int tag) {
            int kind = kindAt(tag);
            int otherKind = other.kindAt(tag);
            boolean bothHaveKinds = kind != NONE && otherKind != NONE;
            return bothHaveKinds && kind != otherKind && (isIntKind(kind) || isIntKind(otherKind));
        }

        private static int typeOfKind(int kind) {
            if (kind == TEXT || kind == PART) {
                return BYTES;
            }
            if (kind == PLAIN || kind == SIGNED) {
                return NUMBER;
            }
            return kind == FOUR ? FIXED : NONE;
        }

        private static boolean isIntKind(int kind) {
            return kind == PLAIN || kind == SIGNED || kind == FOUR;
        }
    }

    /** A schema, and a row of fields as they are written. */
    private static final class Message {
        final Schema schema;
        final Bytes row = new Bytes();

        Message(Schema schema) {
            this.schema = schema;
        }
    }

    /** A row of bytes; it looks at every place itself, so that its users need not. */
    private static final class Bytes {
        private final byte[] cells = new byte[ROOM];
        private int count;

        int count() {
            return count;
        }

        byte at(int place) {
            return place >= 0 && place < count && place < cells.length ? cells[place] : 0;
        }

        void keepFirst(int kept) {
            if (kept >= 0 && kept < count) {
                count = kept;
            }
        }

        void add(byte value) {
            if (count >= 0 && count < cells.length) {
                cells[count] = value;
                count++;
            }
        }

        void addRange(Bytes from, int begin, int end) {
            for (int place = begin; place < end; place++) {
                add(from.at(place));
            }
        }

        void replaceBy(Bytes other) {
            keepFirst(0);
            addRange(other, 0, other.count());
        }

        void addNumberField(int tag, int type, int number) {
            addKey(tag, type);
            if (type == FIXED) {
                addFour(number);
            } else {
                addGroups(number);
            }
        }

        void addBytesHead(int tag, int bytes) {
            addKey(tag, BYTES);
            addGroups(bytes);
        }

        boolean isSameAs(Bytes other) {
            return count == other.count() && hasSameRange(0, other, 0, count);
        }

        boolean hasSameRange(int begin, Bytes other, int otherBegin, int bytes) {
            for (int place = 0; place < bytes; place++) {
                if (at(begin + place) != other.at(otherBegin + place)) {
                    return false;
                }
            }
            return true;
        }

        private void addKey(int tag, int type) {
            addGroups(8 * tag + type);
        }

        private void addGroups(int number) {
            int rest = number;
            for (int group = 0; group < 4 && (rest >>> 7) != 0; group++) {
                add((byte) ((rest & 127) | 128));
                rest = rest >>> 7;
            }
            add((byte) rest);
        }

        private void addFour(int number) {
            for (int shift = 0; shift < 32; shift += 8) {
                add((byte) (number >>> shift));
            }
        }
    }

    /** The fields that a range of bytes is read as, up to its first fault. */
    private static final class Fields {
        private final int[] tags = new int[MOST_FIELDS];
        private final int[] types = new int[MOST_FIELDS];
        // The number of a BYTES field is how many bytes it has; these are the last ones of the field.
        private final int[] numbers = new int[MOST_FIELDS];
        private final int[] ends = new int[MOST_FIELDS];
        private int count;
        private Bytes source = new Bytes();
        private int next;
        private int limit;
        private int problem;
        private int problemAt = NONE;

        void scan(Bytes bytes, int begin, int end) {
            source = bytes;
            next = begin;
            limit = end;
            count = 0;
            problem = NO_FAULT;
            problemAt = NONE;
            for (int turn = 0; turn < MOST_FIELDS && next < limit && problem == NO_FAULT; turn++) {
                int first = next;
                scanField();
                problemAt = problem == NO_FAULT ? NONE : first;
            }
        }

        int count() {
            return count;
        }

        int problem() {
            return problem;
        }

        int problemAt() {
            return problemAt;
        }

        int tagAt(int place) {
            return isPlace(place) ? tags[place] : 0;
        }

        int typeAt(int place) {
            return isPlace(place) ? types[place] : NONE;
        }

        int numberAt(int place) {
            return isPlace(place) ? numbers[place] : 0;
        }

        int endAt(int place) {
            return isPlace(place) ? ends[place] : 0;
        }

        /** How many bytes a field has as its value; 0 without such a field. */
        int bytesAt(int place) {
            return typeAt(place) == BYTES ? numberAt(place) : 0;
        }

        int bytesBeginAt(int place) {
            return endAt(place) - bytesAt(place);
        }

        boolean isKnown(Schema schema, int place) {
            return isPlace(place) && schema.typeAt(tags[place]) == types[place];
        }

        int lastKnown(Schema schema, int tag) {
            for (int place = count - 1; place >= 0; place--) {
                if (tagAt(place) == tag && isKnown(schema, place)) {
                    return place;
                }
            }
            return NONE;
        }

        /** Writes a field anew: on the tape its group numbers may have had more groups than needed. */
        void writeTo(Bytes target, int place) {
            if (typeAt(place) == BYTES) {
                target.addBytesHead(tagAt(place), bytesAt(place));
                target.addRange(source, bytesBeginAt(place), endAt(place));
            } else {
                target.addNumberField(tagAt(place), typeAt(place), numberAt(place));
            }
        }

        boolean isSameAt(int place, Fields other, int otherPlace) {
            return tagAt(place) == other.tagAt(otherPlace)
                && typeAt(place) == other.typeAt(otherPlace)
                && numberAt(place) == other.numberAt(otherPlace)
                && source.hasSameRange(bytesBeginAt(place), other.source, other.bytesBeginAt(otherPlace), bytesAt(place));
        }

        private boolean isPlace(int place) {
            return place >= 0 && place < count && place < MOST_FIELDS;
        }

        private void scanField() {
            int key = scanGroups();
            int tag = key >>> 3;
            int type = key & 7;
            if (problem == NO_FAULT) {
                problem = keyProblem(tag, type);
            }
            if (problem != NO_FAULT) {
                return;
            }
            int number = type == FIXED ? scanFour() : scanGroups();
            if (problem == NO_FAULT && type == BYTES) {
                skipBytes(number);
            }
            if (problem == NO_FAULT) {
                keepField(tag, type, number);
            }
        }

        private static int keyProblem(int tag, int type) {
            if (!isTag(tag)) {
                return WRONG_TAG;
            }
            return type == NUMBER || type == BYTES || type == FIXED ? NO_FAULT : WRONG_TYPE;
        }

        private int scanGroups() {
            int number = 0;
            for (int shift = 0; shift <= 28; shift += 7) {
                if (next >= limit) {
                    problem = CUT_SHORT;
                    return 0;
                }
                int group = source.at(next) & 255;
                next++;
                if (shift == 28 && group > 15) {
                    problem = FIFTH_TOO_LARGE;
                    return 0;
                }
                number |= (group & 127) << shift;
                if (group < 128) {
                    break;
                }
            }
            return number;
        }

        private int scanFour() {
            if (limit - next < 4) {
                problem = CUT_SHORT;
                return 0;
            }
            int number = 0;
            for (int shift = 0; shift < 32; shift += 8) {
                number |= (source.at(next) & 255) << shift;
                next++;
            }
            return number;
        }

        // A count is taken without sign: one that looks negative is larger than any tape.
        private void skipBytes(int bytes) {
            if (bytes < 0 || bytes > limit - next) {
                problem = CUT_SHORT;
            } else {
                next += bytes;
            }
        }

        private void keepField(int tag, int type, int number) {
            if (count >= 0 && count < MOST_FIELDS) {
                tags[count] = tag;
                types[count] = type;
                numbers[count] = number;
                ends[count] = next;
                count++;
            }
        }
    }

    /** The canonical fields of a row by a schema, in their order. */
    private static final class Canon {
        private final Fields fields = new Fields();
        private final int[] order = new int[MOST_FIELDS];
        private final int[] lasts = new int[LAST_TAG + 1];
        private int count;

        void choose(Bytes row, Schema schema) {
            fields.scan(row, 0, row.count());
            noteLasts(schema);
            count = 0;
            for (int place = 0; place < fields.count(); place++) {
                if (!fields.isKnown(schema, place) || isToldBy(schema, place)) {
                    insert(place);
                }
            }
        }

        void writeTo(Bytes target) {
            target.keepFirst(0);
            for (int rank = 0; rank < count; rank++) {
                fields.writeTo(target, placeAt(rank));
            }
        }

        boolean hasSameFields(Canon other) {
            if (count != other.count) {
                return false;
            }
            for (int rank = 0; rank < count; rank++) {
                if (!fields.isSameAt(placeAt(rank), other.fields, other.placeAt(rank))) {
                    return false;
                }
            }
            return true;
        }

        private int placeAt(int rank) {
            return rank >= 0 && rank < count && rank < MOST_FIELDS ? order[rank] : NONE;
        }

        private void noteLasts(Schema schema) {
            Arrays.fill(lasts, NONE);
            for (int place = 0; place < fields.count(); place++) {
                int tag = fields.tagAt(place);
                if (isTag(tag) && fields.isKnown(schema, place)) {
                    lasts[tag] = place;
                }
            }
        }

        // Whether a known field tells something: no other one overrides it, and it is not the default.
        private boolean isToldBy(Schema schema, int place) {
            int tag = fields.tagAt(place);
            return isTag(tag) && lasts[tag] == place && !schema.isDefault(tag, fields.numberAt(place));
        }

        // Only larger tags make room, so that fields with the same tag stay as they come in the row.
        private void insert(int place) {
            if (count < 0 || count >= MOST_FIELDS) {
                return;
            }
            int rank = count;
            while (rank > 0 && fields.tagAt(order[rank - 1]) > fields.tagAt(place)) {
                order[rank] = order[rank - 1];
                rank--;
            }
            order[rank] = place;
            count++;
        }
    }

    /** Looks for the least tag by which one schema cannot take the place of another. */
    private static final class PairSearch {
        private final Schema[] olders = new Schema[MOST_PAIRS];
        private final Schema[] successors = new Schema[MOST_PAIRS];
        private final boolean[] isNoted = new boolean[MOST_PAIRS];
        private int count;

        int leastReason(Schema older, Schema successor) {
            forgetPairs();
            // The pair that is asked about is noted ahead of all others, so that no way leads over it.
            notePair(older, successor);
            for (int tag = 1; tag <= LAST_TAG; tag++) {
                if (older.differsAt(successor, tag) || leadsToDifference(older, successor, tag)) {
                    return tag;
                }
            }
            return NONE;
        }

        // Pairs that an earlier tag has noted lead to no difference, or that tag were the least.
        private boolean leadsToDifference(Schema asked, Schema askedSuccessor, int tag) {
            int next = count;
            notePartsAt(asked, askedSuccessor, tag);
            for (; next >= 0 && next < count && next < MOST_PAIRS; next++) {
                Schema older = olders[next];
                Schema successor = successors[next];
                if (older != null && successor != null && differsSomewhere(older, successor)) {
                    return true;
                }
            }
            return false;
        }

        private boolean differsSomewhere(Schema older, Schema successor) {
            for (int tag = 1; tag <= LAST_TAG; tag++) {
                if (older.differsAt(successor, tag)) {
                    return true;
                }
                notePartsAt(older, successor, tag);
            }
            return false;
        }

        private void notePartsAt(Schema older, Schema successor, int tag) {
            Schema part = older.partOf(tag);
            Schema successorPart = successor.partOf(tag);
            if (part != null && successorPart != null) {
                notePair(part, successorPart);
            }
        }

        private void notePair(Schema older, Schema successor) {
            int pair = older.number * MOST_SCHEMAS + successor.number;
            if (pair >= 0 && pair < MOST_PAIRS && count >= 0 && count < MOST_PAIRS && !isNoted[pair]) {
                isNoted[pair] = true;
                olders[count] = older;
                successors[count] = successor;
                count++;
            }
        }

        private void forgetPairs() {
            for (int pair = 0; pair < MOST_PAIRS; pair++) {
                isNoted[pair] = false;
            }
            count = 0;
        }
    }
}
