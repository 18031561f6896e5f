/** Promises 15 to 24: what a message has. */
final class ContentsTest {
    private static final int LEAST = Integer.MIN_VALUE, GREATEST = Integer.MAX_VALUE;
    private static final int[] NO_MESSAGES = {-1, 11, 12, LEAST, GREATEST};
    private static final int[] NO_TAGS = {0, 32, -1, LEAST, GREATEST};
    private static final Checks CHECKS = new Checks("ContentsTest");

    public static void main(String[] args) {
        promise15SchemaOf();
        promise16Has();
        promise17Get();
        promise18ByteOf();
        promise19Open();
        promise19OpenThrows();
        promise20And21Unknowns();
        promise22Weight();
        promises23And24Same();
        promises23And24NotSame();
        CHECKS.end();
    }

    /** The part of tag 5 has schema 1, with PLAIN for its tag 1. */
    private static Schemabridge usual() {
        Schemabridge bridge = Bridges.usual(1);
        bridge.setKind(1, 1, Schemabridge.PLAIN, 0);
        return bridge;
    }

    private static void promise15SchemaOf() {
        Schemabridge x = usual();
        x.create(1);
        x.create(0);
        CHECKS.due("schemaOf(0)", x.schemaOf(0), 1);
        CHECKS.due("schemaOf(1)", x.schemaOf(1), 0);
        for (int message : NO_MESSAGES) {
            CHECKS.thrown("schemaOf of " + message, Checks.PLACE, () -> x.schemaOf(message));
        }
    }

    private static void promise16Has() {
        Schemabridge x = usual();
        int read = Bridges.readOf(x, 0, 13, 0, 0, 0, 0, 16, 0, 34, 0, 48, 1);
        CHECKS.due("has by another type", x.has(read, 1), false);
        CHECKS.due("has with a default", x.has(read, 2), true);
        CHECKS.due("has without a field", x.has(read, 3), false);
        CHECKS.due("has without bytes", x.has(read, 4), true);
        CHECKS.due("has without a kind", x.has(read, 6), false);
        x.setKind(0, 1, Schemabridge.FOUR, 0);
        x.setKind(0, 2, Schemabridge.TEXT, 0);
        x.setKind(0, 4, Schemabridge.PART, 0);
        x.setKind(0, 6, Schemabridge.SIGNED, 0);
        CHECKS.due("has by its type now", x.has(read, 1), true);
        CHECKS.due("has no longer", x.has(read, 2), false);
        CHECKS.due("has as TEXT and as PART", x.has(read, 4), true);
        CHECKS.due("has by its kind now", x.has(read, 6), true);
        x.create(0);
        CHECKS.due("has of another message", x.has(1, 6), false);
        CHECKS.due("has of the first again", x.has(read, 6), true);
        for (int message : NO_MESSAGES) {
            CHECKS.thrown("has of message " + message, Checks.PLACE, () -> x.has(message, 0));
        }
        for (int tag : NO_TAGS) {
            CHECKS.thrown("has of tag " + tag, Checks.ARGUMENT, () -> x.has(read, tag));
        }
    }

    private static void promise17Get() {
        Schemabridge x = usual();
        int read = Bridges.readOf(x, 0, 8, 1, 8, 255, 255, 255, 255, 15, 13, 9, 0, 0, 0, 16, 3, 29, 4, 3, 2, 129);
        CHECKS.due("get of PLAIN", x.get(read, 1), -1);
        CHECKS.due("get of SIGNED", x.get(read, 2), -2);
        CHECKS.due("get of FOUR", x.get(read, 3), 0x81020304);
        x.setKind(0, 1, Schemabridge.SIGNED, 0);
        CHECKS.due("get as SIGNED", x.get(read, 1), LEAST);
        x.setKind(0, 1, Schemabridge.FOUR, 0);
        CHECKS.due("get as FOUR", x.get(read, 1), 9);
        x.create(0);
        for (int tag = 1; tag <= 3; tag++) {
            CHECKS.due("get without a field", x.get(1, tag), 0);
            x.setDefault(0, tag, -5 * tag);
            CHECKS.due("get of the default", x.get(1, tag), -5 * tag);
        }
        CHECKS.due("get beside a default", x.get(read, 2), -2);
        for (int message : NO_MESSAGES) {
            CHECKS.thrown("get of message " + message, Checks.PLACE, () -> x.get(message, 0));
        }
        for (int tag : new int[] {4, 5, 6, 31, 0, 32, -1, LEAST, GREATEST}) {
            CHECKS.thrown("get of tag " + tag, Checks.ARGUMENT, () -> x.get(read, tag));
        }
    }

    private static void promise18ByteOf() {
        Schemabridge x = usual();
        int read = Bridges.readOf(x, 0, 34, 3, 1, 2, 3, 34, 2, 128, 5, 42, 0, 32, 7);
        CHECKS.due("byteOf", x.byteOf(read, 4, 0), (byte) -128);
        CHECKS.due("byteOf", x.byteOf(read, 4, 1), (byte) 5);
        for (int place : new int[] {-1, 2, 3, LEAST, GREATEST}) {
            CHECKS.thrown("byteOf place " + place, Checks.ABSENT, () -> x.byteOf(read, 4, place));
        }
        CHECKS.thrown("byteOf of an empty one", Checks.ABSENT, () -> x.byteOf(read, 5, 0));
        x.clear(read, 4);
        CHECKS.thrown("byteOf without a field", Checks.ABSENT, () -> x.byteOf(read, 4, 0));
        for (int message : NO_MESSAGES) {
            CHECKS.thrown("byteOf of message " + message, Checks.PLACE, () -> x.byteOf(message, 0, -1));
        }
        for (int tag : new int[] {1, 2, 3, 6, 0, 32, -1, LEAST, GREATEST}) {
            CHECKS.thrown("byteOf of tag " + tag, Checks.ARGUMENT, () -> x.byteOf(read, tag, -1));
        }
    }

    private static void promise19Open() {
        Schemabridge x = usual();
        int read = Bridges.readOf(x, 0, 42, 1, 8, 42, 9, 8, 129, 0, 16, 5, 10, 0, 8, 2, 8, 3);
        CHECKS.due("open", x.open(read, 5), 1);
        CHECKS.due("schemaOf", x.schemaOf(1), 1);
        CHECKS.due("get", x.get(1, 1), 2);
        CHECKS.due("unknowns", x.unknowns(1), 2);
        CHECKS.due("weight, with as few groups as are needed", x.weight(1), 8);
        CHECKS.due("the part that stays", x.weight(read), 16);
        x.discard(read);
        int empty = Bridges.readOf(x, 0, 42, 0, 8, 1);
        CHECKS.due("open of an empty one", x.open(empty, 5), 2);
        CHECKS.due("weight of that", x.weight(2), 0);
        x.setKind(0, 5, Schemabridge.PART, 0);
        CHECKS.due("open by the schema as it is now", x.open(empty, 5), 3);
        CHECKS.due("schemaOf of that", x.schemaOf(3), 0);
    }

    private static void promise19OpenThrows() {
        Schemabridge x = usual();
        x.create(0);
        for (int message : NO_MESSAGES) {
            CHECKS.thrown("open of message " + message, Checks.PLACE, () -> x.open(message, 0));
        }
        for (int tag : new int[] {1, 2, 3, 4, 6, 0, 32, -1, LEAST, GREATEST}) {
            CHECKS.thrown("open of tag " + tag, Checks.ARGUMENT, () -> x.open(0, tag));
        }
        CHECKS.thrown("open without a field", Checks.ABSENT, () -> x.open(0, 5));
        int[][] faulty = {{8}, {0}, {1}, {8, 128}, {10, 1}, {13, 0, 0, 0}, {8, 128, 128, 128, 128, 16}};
        for (int[] bytes : faulty) {
            for (int each : bytes) {
                x.append(0, 5, (byte) each);
            }
            CHECKS.thrown("open with a fault", Checks.STATE, () -> x.open(0, 5));
            x.clear(0, 5);
        }
        // A field of the message behind the part is no part of its bytes.
        int read = Bridges.readOf(x, 0, 42, 1, 8, 16, 1);
        CHECKS.thrown("open with a fault ahead of a field", Checks.STATE, () -> x.open(read, 5));
        x.setPart(0, 5, x.create(1));
        for (int made = 3; made < 12; made++) {
            CHECKS.due("open", x.open(0, 5), made);
        }
        CHECKS.thrown("open of a thirteenth", Checks.STATE, () -> x.open(0, 5));
        x.clear(0, 5);
        CHECKS.thrown("open of a thirteenth without a field", Checks.ABSENT, () -> x.open(0, 5));
        CHECKS.thrown("open of a thirteenth of a wrong tag", Checks.ARGUMENT, () -> x.open(0, 4));
    }

    private static void promise20And21Unknowns() {
        Schemabridge x = usual();
        int read = Bridges.readOf(x, 0, 248, 1, 1, 8, 1, 13, 0, 0, 0, 0, 32, 3, 248, 1, 2, 34, 0, 16, 1);
        CHECKS.due("unknowns", x.unknowns(read), 4);
        int[] tags = {31, 1, 4, 31};
        for (int place = 0; place < 4; place++) {
            CHECKS.due("unknownTag", x.unknownTag(read, place), tags[place]);
        }
        for (int place : new int[] {-1, 4, LEAST, GREATEST}) {
            CHECKS.thrown("unknownTag of place " + place, Checks.PLACE, () -> x.unknownTag(read, place));
        }
        x.setKind(0, 31, Schemabridge.PLAIN, 0);
        x.dropKind(0, 2);
        CHECKS.due("unknowns by the schema as it is now", x.unknowns(read), 3);
        CHECKS.due("the last unknownTag", x.unknownTag(read, 2), 2);
        x.create(0);
        CHECKS.due("unknownTag after another message", x.unknownTag(read, 0), 1);
        CHECKS.due("unknowns without fields", x.unknowns(1), 0);
        CHECKS.thrown("unknownTag without fields", Checks.PLACE, () -> x.unknownTag(1, 0));
        for (int message : NO_MESSAGES) {
            CHECKS.thrown("unknowns of message " + message, Checks.PLACE, () -> x.unknowns(message));
            CHECKS.thrown("unknownTag of message " + message, Checks.PLACE, () -> x.unknownTag(message, 0));
        }
    }

    private static void promise22Weight() {
        Schemabridge x = usual();
        x.setKind(0, 15, Schemabridge.PLAIN, 0);
        x.setKind(0, 16, Schemabridge.PLAIN, 0);
        x.create(0);
        int[] values = {0, 127, 128, 16383, 16384, 2097151, 2097152, 268435455, 268435456, -1};
        int[] weights = {2, 2, 3, 3, 4, 4, 5, 5, 6, 6};
        for (int each = 0; each < values.length; each++) {
            x.set(0, 15, values[each]);
            CHECKS.due("weight of " + values[each], x.weight(0), weights[each]);
            x.clear(0, 15);
            x.set(0, 16, values[each]);
            CHECKS.due("weight of " + values[each] + " with tag 16", x.weight(0), weights[each] + 1);
            x.clear(0, 16);
        }
        int read = Bridges.readOf(x, 0, 136, 0, 128, 0, 8, 3, 8, 3, 34, 129, 0, 7);
        CHECKS.due("weight of all fields, as they are written", x.weight(read), 9);
        for (int message : NO_MESSAGES) {
            CHECKS.thrown("weight of message " + message, Checks.PLACE, () -> x.weight(message));
        }
    }

    private static void same(Schemabridge x, String what, int one, int two, boolean want) {
        CHECKS.due("areSame, " + what, x.areSame(one, two), want);
        CHECKS.due("areSame, " + what + ", the other way", x.areSame(two, one), want);
        CHECKS.due("areSameByBytes, " + what, x.areSameByBytes(one, two), want);
        CHECKS.due("areSameByBytes, " + what + ", the other way", x.areSameByBytes(two, one), want);
    }

    private static void promises23And24Same() {
        Schemabridge x = usual();
        int one = Bridges.readOf(x, 0, 16, 2, 34, 1, 7, 8, 0, 248, 1, 1, 240, 1, 2);
        int two = Bridges.readOf(x, 0, 240, 1, 2, 34, 1, 6, 248, 1, 1, 34, 1, 7, 16, 130, 0);
        same(x, "with itself", one, one, true);
        same(x, "with other orders, overridden ones and defaults", one, two, true);
        x.setDefault(0, 1, 1);
        same(x, "with a default that is one no longer", one, two, false);
        x.setDefault(0, 1, 0);
        int three = x.copy(one, 1);
        same(x, "with a schema that does not drop an unknown int", one, three, true);
        x.dropKind(1, 1);
        same(x, "with a schema that knows nothing", one, three, false);
        x.create(0);
        x.create(1);
        same(x, "without fields, with other schemas", 3, 4, true);
        for (int message : NO_MESSAGES) {
            CHECKS.thrown("areSame of message " + message, Checks.PLACE, () -> x.areSame(message, 0));
            CHECKS.thrown("areSame with message " + message, Checks.PLACE, () -> x.areSame(0, message));
            CHECKS.thrown("areSameByBytes of message " + message, Checks.PLACE, () -> x.areSameByBytes(message, 0));
            CHECKS.thrown("areSameByBytes with message " + message, Checks.PLACE, () -> x.areSameByBytes(0, message));
        }
    }

    private static void promises23And24NotSame() {
        int[][] rows = {
            {}, {8, 1}, {8, 2}, {16, 2}, {13, 1, 0, 0, 0}, {10, 1, 1}, {10, 0}, {34, 0}, {34, 1, 1}, {34, 2, 1, 1},
            {34, 1, 2}, {48, 1, 48, 2}, {48, 2, 48, 1}, {48, 1}, {50, 1, 48}, {8, 1, 16, 2}, {48, 1, 48, 1}};
        for (int one = 0; one < rows.length; one++) {
            for (int two = one; two < rows.length; two++) {
                Schemabridge x = usual();
                Bridges.readOf(x, 0, rows[one]);
                Bridges.readOf(x, 0, rows[two]);
                same(x, "row " + one + " with row " + two, 0, 1, one == two);
            }
        }
    }
}
