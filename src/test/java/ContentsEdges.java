import java.util.Arrays;
import java.util.function.Supplier;

/** The edges that promises 15 to 24 name: what a message has. */
final class ContentsEdges extends Edges {
    private static Schemabridge usual() {
        return Bridges.usual(1);
    }

    /** Message 0, by schema 0, is read from these bytes. */
    private static Schemabridge reading(int... bytes) {
        Schemabridge x = usual();
        Bridges.readOf(x, 0, bytes);
        return x;
    }

    // ---- Promise 15

    private static void promise15Schema() {
        promise(15, "Returns the schema of a message.");
        Schemabridge x = Bridges.full();
        for (int message = 0; message < 12; message++) {
            x.discard(message);
            due("create", x.create(message % 6), message);
        }
        for (int message = 0; message < 12; message++) {
            due("schemaOf", x.schemaOf(message), message % 6);
        }
    }

    private static void promise15NoSuchMessage() {
        promise(15, "if there is no such message");
        for (int message : NO_MESSAGES_OF_BUSY) {
            refused(PLACE, "message " + message, BUSY, x -> x.schemaOf(message));
        }
        refused(PLACE, "the number 12 with twelve", FULL, x -> x.schemaOf(12));
        due("the last of twelve", Bridges.full().schemaOf(11), 0);
    }

    // ---- Promise 16

    private static void promise16Has() {
        promise(16, "Returns whether a message has a known field with a tag.");
        Schemabridge x = reading(8, 0, 34, 0, 16, 1);
        due("with the default", x.has(0, 1), true);
        due("without bytes", x.has(0, 4), true);
        due("as SIGNED", x.has(0, 2), true);
        due("without a field", x.has(0, 3), false);
        due("without a kind", x.has(0, 6), false);
        due("another message", x.has(x.create(0), 1), false);
        x.setDefault(0, 3, 9);
        due("with a default and without a field", x.has(0, 3), false);
    }

    private static void promise16UnknownOnesDoNotCount() {
        promise(16, "has a known field");
        Schemabridge x = reading(13, 0, 0, 0, 0, 10, 0, 248, 1, 1);
        due("other types alone", x.has(0, 1), false);
        due("no kind", x.has(0, 31), false);
        x.setKind(0, 31, SIGNED, 0);
        due("a kind since then", x.has(0, 31), true);
        Schemabridge between = reading(10, 0, 8, 1, 13, 0, 0, 0, 0);
        due("a known one between others", between.has(0, 1), true);
    }

    private static void promise16EachTag() {
        promise(16, "with a tag");
        for (int tag = 1; tag <= 31; tag++) {
            Schemabridge x = Bridges.withSchemas(1);
            for (int each = 1; each <= 31; each++) {
                x.setKind(0, each, PLAIN, 0);
            }
            x.set(x.create(0), tag, 0);
            for (int each = 1; each <= 31; each++) {
                due("has tag " + each + " with one of " + tag, x.has(0, each), each == tag);
            }
        }
    }

    private static void promise16NoSuchMessage() {
        promise(16, "if there is no such message");
        for (int message : NO_MESSAGES_OF_BUSY) {
            refused(PLACE, "message " + message, BUSY, x -> x.has(message, 1));
            refused(PLACE, "message " + message + " and no tag", BUSY, x -> x.has(message, 0));
        }
        refused(PLACE, "the number 12 with twelve", FULL, x -> x.has(12, 1));
    }

    private static void promise16NoSuchTag() {
        promise(16, "if tag is not 1 to 31");
        due("the first tag", Bridges.busy().has(0, 1), true);
        due("the last tag", Bridges.busy().has(0, 31), false);
        for (int tag : NO_TAGS) {
            refused(ARGUMENT, "tag " + tag, BUSY, x -> x.has(0, tag));
        }
    }

    // ---- Promise 17

    private static void promise17TheInt() {
        promise(17, "Returns the int that a message has for a tag");
        due("of one", reading(8, 7).get(0, 1), 7);
        due("the last of two", reading(8, 7, 8, 9).get(0, 1), 9);
        due("the last, which is the default", reading(8, 7, 8, 0).get(0, 1), 0);
        due("one ahead of an unknown one", reading(8, 7, 13, 9, 0, 0, 0).get(0, 1), 7);
        due("the last of sixty", reading(Bridges.joined(Bridges.pairs(118, 8, 7), 8, 6)).get(0, 1), 6);
        due("PLAIN 2^32 - 1", reading(8, 255, 255, 255, 255, 15).get(0, 1), -1);
        due("SIGNED of the NUMBER 2^32 - 1", reading(16, 255, 255, 255, 255, 15).get(0, 2), LEAST);
        due("SIGNED of the NUMBER 2^32 - 2", reading(16, 254, 255, 255, 255, 15).get(0, 2), GREATEST);
        due("SIGNED of the NUMBER 2^31", reading(16, 128, 128, 128, 128, 8).get(0, 2), 1 << 30);
        due("FOUR 2^31", reading(29, 0, 0, 0, 128).get(0, 3), LEAST);
    }

    private static void promise17TheDefault() {
        promise(17, "the default if it has none");
        for (int tag = 1; tag <= 3; tag++) {
            Schemabridge x = reading(10, 0, 18, 0, 26, 0);
            due("0 at first", x.get(0, tag), 0);
            for (int value : new int[] {LEAST, -1, 1, GREATEST}) {
                x.setDefault(0, tag, value);
                due("the default " + value, x.get(0, tag), value);
            }
            x.set(0, tag, 0);
            due("0 in spite of a default", x.get(0, tag), 0);
            x.clear(0, tag);
            due("the default after clear", x.get(0, tag), GREATEST);
        }
    }

    private static void promise17NoSuchMessage() {
        promise(17, "if there is no such message");
        for (int message : NO_MESSAGES_OF_BUSY) {
            refused(PLACE, "message " + message, BUSY, x -> x.get(message, 1));
            refused(PLACE, "message " + message + " and no tag", BUSY, x -> x.get(message, 32));
        }
        refused(PLACE, "the number 12 with twelve", FULL, x -> x.get(12, 1));
    }

    private static void promise17NoInt() {
        promise(17, "if the schema of the message has not PLAIN, SIGNED or FOUR for the tag");
        refused(ARGUMENT, "TEXT", BUSY, x -> x.get(0, 4));
        refused(ARGUMENT, "PART", BUSY, x -> x.get(0, 5));
        refused(ARGUMENT, "no kind", BUSY, x -> x.get(0, 6));
        refused(ARGUMENT, "no kind, but an unknown NUMBER", BUSY, x -> x.get(0, 31));
        refused(ARGUMENT, "a kind in another schema alone", () -> {
            Schemabridge x = Bridges.busy();
            x.copy(0, 1);
            return x;
        }, x -> x.get(1, 2));
        for (int tag : NO_TAGS) {
            refused(ARGUMENT, "tag " + tag, BUSY, x -> x.get(0, tag));
        }
    }

    // ---- Promise 18

    private static void promise18TheByte() {
        promise(18, "Returns a byte of what a message has for a tag.");
        Schemabridge x = reading(34, 3, 1, 2, 3, 42, 1, 7, 34, 2, 128, 127, 32, 9);
        due("the first of the last field", x.byteOf(0, 4, 0), (byte) -128);
        due("the second of the last field", x.byteOf(0, 4, 1), (byte) 127);
        due("the one of another tag", x.byteOf(0, 5, 0), (byte) 7);
    }

    private static void promise18Places() {
        promise(18, "from 0");
        int[] bytes = new int[120];
        bytes[0] = 34;
        bytes[1] = 118;
        for (int place = 0; place < 118; place++) {
            bytes[place + 2] = 2 * place;
        }
        Schemabridge x = reading(bytes);
        for (int place = 0; place < 118; place++) {
            due("place " + place, x.byteOf(0, 4, place), (byte) (2 * place));
        }
        for (int place : new int[] {118, 119, 120, -1, -2, 256, LEAST, LEAST + 1, GREATEST}) {
            refused(ABSENT, "place " + place, () -> reading(bytes), y -> y.byteOf(0, 4, place));
        }
    }

    private static void promise18NoSuchMessage() {
        promise(18, "if there is no such message");
        for (int message : NO_MESSAGES_OF_BUSY) {
            refused(PLACE, "message " + message, BUSY, x -> x.byteOf(message, 4, 0));
            refused(PLACE, "message " + message + ", no tag, no place", BUSY, x -> x.byteOf(message, 0, -1));
        }
        refused(PLACE, "the number 12 with twelve", FULL, x -> x.byteOf(12, 4, 0));
    }

    private static void promise18NoBytes() {
        promise(18, "if the schema of the message has not TEXT or PART for the tag");
        for (int tag : new int[] {1, 2, 3, 6, 31}) {
            refused(ARGUMENT, "tag " + tag, BUSY, x -> x.byteOf(0, tag, 0));
            refused(ARGUMENT, "tag " + tag + " and no place", BUSY, x -> x.byteOf(0, tag, -1));
        }
        for (int tag : NO_TAGS) {
            refused(ARGUMENT, "tag " + tag, BUSY, x -> x.byteOf(0, tag, 0));
            refused(ARGUMENT, "tag " + tag + " and no place", BUSY, x -> x.byteOf(0, tag, 120));
        }
    }

    private static void promise18Nothing() {
        promise(18, "if the message has nothing for the tag");
        refused(ABSENT, "no field", () -> reading(8, 1), x -> x.byteOf(0, 4, 0));
        refused(ABSENT, "no field at all", () -> reading(), x -> x.byteOf(0, 5, 0));
        refused(ABSENT, "an unknown field alone", () -> reading(32, 1, 37, 0, 0, 0, 0), x -> x.byteOf(0, 4, 0));
        refused(ABSENT, "bytes of another tag", () -> reading(42, 1, 1), x -> x.byteOf(0, 4, 0));
    }

    private static void promise18NoSuchByte() {
        promise(18, "or that has no such byte");
        Supplier<Schemabridge> made = () -> reading(42, 2, 5, 6, 34, 1, 7, 8, 9);
        due("the last byte of the first field", made.get().byteOf(0, 5, 1), (byte) 6);
        refused(ABSENT, "the byte behind it, which another field has", made, x -> x.byteOf(0, 5, 2));
        refused(ABSENT, "the byte ahead of it", made, x -> x.byteOf(0, 5, -1));
        due("the byte of the second field", made.get().byteOf(0, 4, 0), (byte) 7);
        refused(ABSENT, "the byte behind that", made, x -> x.byteOf(0, 4, 1));
        refused(ABSENT, "a byte that an overridden field has", () -> reading(34, 2, 1, 2, 34, 1, 3), x -> x.byteOf(0, 4, 1));
        refused(ABSENT, "a byte of none", () -> reading(34, 0), x -> x.byteOf(0, 4, 0));
        refused(ABSENT, "a byte of none behind some", () -> reading(34, 2, 1, 2, 34, 0), x -> x.byteOf(0, 4, 0));
    }

    // ---- Promise 19

    private static void promise19MakesAMessage() {
        promise(19, "Opens a part: makes a message of the schema of the part by reading its bytes.");
        Schemabridge x = reading(42, 2, 8, 1, 42, 12, 248, 1, 1, 8, 0, 8, 129, 0, 10, 130, 0, 7);
        x.setKind(1, 1, PLAIN, 0);
        due("a fault, as a byte is missing", Checks.thrownBy(() -> x.open(0, 5)), "IllegalStateException");
        due("the missing byte", x.append(0, 5, (byte) 6), 13);
        due("open", x.open(0, 5), 1);
        due("schemaOf", x.schemaOf(1), 1);
        due("the order, with those that are not canonical", Bridges.unknownTags(x, x.copy(1, 0)), " 31 1");
        due("the fields", x.discard(1), 4);
    }

    private static void promise19TheBytesAsTheyAre() {
        promise(19, "by reading its bytes");
        Schemabridge x = reading(42, 7, 136, 128, 0, 133, 0, 8, 0);
        int opened = x.open(0, 5);
        due("the weight, with as few groups as are needed", x.weight(opened), 4);
        due("what is written", Bridges.written(x, opened), "8 5 8 0");
        due("the part after it", x.weight(0), 9);
        Schemabridge none = reading(42, 2, 8, 1, 42, 0);
        due("open of no bytes", none.open(0, 5), 1);
        due("its fields", none.discard(1), 0);
        Schemabridge most = reading(Bridges.joined(new int[] {42, 118}, Bridges.pairs(118, 8, 3)));
        due("open of 118 bytes", most.open(0, 5), 1);
        due("its fields", most.discard(1), 59);
        Schemabridge apart = reading(42, 2, 8, 1);
        apart.open(0, 5);
        apart.clear(0, 5);
        due("what is opened, after the part is gone", apart.weight(1), 2);
    }

    private static void promise19Number() {
        promise(19, "Returns its number.");
        Schemabridge x = Bridges.full();
        for (int number : new int[] {11, 1, 6}) {
            x.discard(number);
            due("open", x.open(0, 5), number);
        }
    }

    private static void promise19NoSuchMessage() {
        promise(19, "if there is no such message");
        for (int message : NO_MESSAGES_OF_BUSY) {
            refused(PLACE, "message " + message, BUSY, x -> x.open(message, 5));
            refused(PLACE, "message " + message + " and no tag", BUSY, x -> x.open(message, 0));
        }
        refused(PLACE, "the number 12 with twelve", FULL, x -> x.open(12, 5));
    }

    private static void promise19NoPart() {
        promise(19, "if the schema of the message has not PART for the tag");
        for (int tag : new int[] {1, 2, 3, 4, 6, 31}) {
            refused(ARGUMENT, "tag " + tag, BUSY, x -> x.open(0, tag));
            refused(ARGUMENT, "tag " + tag + " with twelve messages", FULL, x -> x.open(0, tag));
        }
        for (int tag : NO_TAGS) {
            refused(ARGUMENT, "tag " + tag, BUSY, x -> x.open(0, tag));
        }
        refused(ARGUMENT, "a PART that is a TEXT since then", () -> {
            Schemabridge x = reading(42, 2, 8, 1);
            x.setKind(0, 5, TEXT, 1);
            return x;
        }, x -> x.open(0, 5));
    }

    private static void promise19Nothing() {
        promise(19, "if the message has nothing for the tag");
        refused(ABSENT, "no field", () -> reading(8, 1), x -> x.open(0, 5));
        refused(ABSENT, "an unknown field alone", () -> reading(40, 1), x -> x.open(0, 5));
        refused(ABSENT, "no field, with twelve messages", () -> {
            Schemabridge x = Bridges.full();
            x.clear(11, 5);
            return x;
        }, x -> x.open(11, 5));
        due("no bytes, which are something", reading(42, 0).open(0, 5), 1);
    }

    private static void promise19Faults() {
        promise(19, "if the bytes have a fault");
        int[][] faulty = {
            {8}, {136}, {8, 128}, {10}, {10, 1}, {10, 2, 1}, {13}, {13, 0, 0, 0}, {8, 128, 128, 128, 128, 16},
            {136, 128, 128, 128, 16}, {0, 0}, {1, 0}, {128, 2, 0}, {9, 0}, {11}, {12}, {14}, {15}, {8, 1, 8}, {8, 1, 0}};
        for (int[] bytes : faulty) {
            int[] part = Bridges.joined(new int[] {42, bytes.length}, bytes);
            refused(STATE, "bytes of number " + bytes[0], () -> reading(part), x -> x.open(0, 5));
            // What is missing in the part stands behind it in the message, but that is no part of its bytes.
            refused(STATE, "bytes ahead of others", () -> reading(Bridges.joined(part, 8, 0, 8, 0, 8, 0)), x -> x.open(0, 5));
            refused(STATE, "bytes with a good part ahead", () -> reading(Bridges.joined(new int[] {42, 2, 8, 1}, part)), x -> x.open(0, 5));
        }
        due("a fault in a part that is overridden", reading(42, 1, 8, 42, 2, 8, 1).open(0, 5), 1);
        due("a fault in a part of the part", reading(42, 3, 42, 1, 8).open(0, 5), 1);
    }

    private static void promise19AtMostTwelve() {
        promise(19, "or there are 12 messages");
        Schemabridge x = Bridges.full();
        x.discard(11);
        due("the twelfth", x.open(0, 5), 11);
        refused(STATE, "the thirteenth", FULL, y -> y.open(0, 5));
    }

    // ---- Promise 20

    private static void promise20HowMany() {
        promise(20, "Returns how many unknown fields a message has.");
        Schemabridge x = usual();
        due("of no fields", x.unknowns(x.create(0)), 0);
        due("of known ones", x.unknowns(Bridges.readOf(x, 0, 8, 1, 8, 1, 34, 0)), 0);
        due("of one with another type", x.unknowns(Bridges.readOf(x, 0, 8, 1, 13, 0, 0, 0, 0)), 1);
        due("of two alike", x.unknowns(Bridges.readOf(x, 0, 248, 1, 1, 8, 1, 248, 1, 1)), 2);
        due("of sixty", x.unknowns(Bridges.readOf(x, 0, Bridges.pairs(120, 10, 0))), 60);
        due("of sixty known ones", x.unknowns(Bridges.readOf(x, 0, Bridges.pairs(120, 8, 0))), 0);
        due("of none by another schema", x.unknowns(x.copy(0, 1)), 0);
        x.setKind(0, 1, TEXT, 0);
        due("of sixty that are known since then", x.unknowns(4), 0);
        due("of sixty that are unknown since then", x.unknowns(5), 60);
    }

    private static void promise20NoSuchMessage() {
        promise(20, "if there is no such message");
        for (int message : NO_MESSAGES_OF_BUSY) {
            refused(PLACE, "message " + message, BUSY, x -> x.unknowns(message));
        }
        refused(PLACE, "the number 12 with twelve", FULL, x -> x.unknowns(12));
    }

    // ---- Promise 21

    private static void promise21TheTag() {
        promise(21, "Returns the tag of an unknown field.");
        for (int tag = 1; tag <= 31; tag++) {
            Schemabridge x = Bridges.withSchemas(2);
            x.setKind(0, tag, PLAIN, 0);
            x.set(x.create(0), tag, 1);
            due("unknownTag", x.unknownTag(x.copy(0, 1), 0), tag);
        }
    }

    private static void promise21Places() {
        promise(21, "from 0, in the order of the row");
        Schemabridge x = reading(248, 1, 1, 8, 1, 13, 0, 0, 0, 0, 34, 0, 48, 1, 10, 0, 248, 1, 2);
        due("the tags", Bridges.unknownTags(x, 0), " 31 1 6 1 31");
        x.set(0, 1, 5);
        due("the tags after a set", Bridges.unknownTags(x, 0), " 31 1 6 1 31");
        x.clear(0, 6);
        due("the tags after a clear", Bridges.unknownTags(x, 0), " 31 1 1 31");
        Schemabridge sixty = reading(Bridges.joined(Bridges.joined(new int[] {50, 0}, Bridges.pairs(116, 10, 0)), 58, 0));
        due("the first of sixty", sixty.unknownTag(0, 0), 6);
        due("the second of sixty", sixty.unknownTag(0, 1), 1);
        due("the last of sixty", sixty.unknownTag(0, 59), 7);
    }

    private static void promise21NoSuchMessageOrField() {
        promise(21, "if there is no such message or unknown field");
        for (int message : NO_MESSAGES_OF_BUSY) {
            refused(PLACE, "message " + message, BUSY, x -> x.unknownTag(message, 0));
        }
        refused(PLACE, "the number 12 with twelve", FULL, x -> x.unknownTag(12, 0));
        due("the last of three", Bridges.busy().unknownTag(0, 2), 31);
        for (int place : new int[] {3, 4, 8, 60, -1, -2, LEAST, LEAST + 1, GREATEST}) {
            refused(PLACE, "place " + place, BUSY, x -> x.unknownTag(0, place));
        }
        refused(PLACE, "the first of none", BUSY, x -> x.unknownTag(2, 0));
        refused(PLACE, "the first of a message without fields", FULL, x -> x.unknownTag(5, 0));
        due("the last of sixty", reading(Bridges.joined(Bridges.pairs(118, 10, 0), 50, 0)).unknownTag(0, 59), 6);
        refused(PLACE, "the 61st of sixty", () -> reading(Bridges.pairs(120, 10, 0)), x -> x.unknownTag(0, 60));
    }

    // ---- Promise 22

    private static void promise22Weight() {
        promise(22, "Returns the weight of a message.");
        due("of no fields", reading().weight(0), 0);
        due("of known and unknown ones, and of defaults", reading(8, 0, 8, 0, 13, 0, 0, 0, 0, 34, 1, 9).weight(0), 12);
        due("of all that fits", Bridges.full().weight(0), 120);
        due("with tag 15", reading(120, 0).weight(0), 2);
        due("with tag 16", reading(128, 1, 0).weight(0), 3);
        due("with a number of two groups", reading(8, 128, 1).weight(0), 3);
        due("with a number of five groups", reading(8, 255, 255, 255, 255, 15).weight(0), 6);
        due("with groups that are not needed", reading(136, 128, 0, 129, 128, 128, 128, 0).weight(0), 2);
        Schemabridge x = reading(8, 0, 16, 5);
        x.set(0, 1, 128);
        due("after a set", x.weight(0), 5);
        x.setDefault(0, 1, 128);
        x.dropKind(0, 2);
        due("whatever the schema", x.weight(0), 5);
        x.clear(0, 1);
        due("after a clear", x.weight(0), 2);
    }

    private static void promise22NoSuchMessage() {
        promise(22, "if there is no such message");
        for (int message : NO_MESSAGES_OF_BUSY) {
            refused(PLACE, "message " + message, BUSY, x -> x.weight(message));
        }
        refused(PLACE, "the number 12 with twelve", FULL, x -> x.weight(12));
    }

    // ---- Promises 23 and 24

    /** Rows that all differ from one another, by schema 0 as well as by schema 1. */
    private static final int[][] ROWS = {
        {}, {8, 1}, {8, 2}, {8, 129, 1}, {16, 1}, {13, 1, 0, 0, 0}, {13, 1, 0, 0, 1}, {10, 0}, {10, 1, 1}, {10, 1, 2},
        {10, 2, 1, 1}, {34, 0}, {34, 1, 0}, {34, 2, 0, 0}, {34, 2, 0, 1}, {34, 2, 1, 0}, {42, 0}, {48, 1}, {48, 1, 48, 1},
        {48, 1, 48, 2}, {48, 2, 48, 1}, {48, 1, 50, 0}, {50, 0, 48, 1}, {8, 1, 34, 0}, {8, 1, 16, 1}, {248, 1, 1},
        {34, 2, 8, 1}, {34, 0, 48, 1}, {248, 1, 0}, {48, 0}, {48, 0, 48, 0}, {8, 255, 255, 255, 255, 15}};

    private static void same(Schemabridge x, String what, int one, int two, boolean want) {
        due(what, x.areSame(one, two), want);
        due(what + ", the other way round", x.areSame(two, one), want);
    }

    private static void sameByBytes(Schemabridge x, String what, int one, int two, boolean want) {
        due(what, x.areSameByBytes(one, two), want);
        due(what + ", the other way round", x.areSameByBytes(two, one), want);
    }

    private static void promise23FieldByField() {
        promise(23, "compared field by field");
        for (int one = 0; one < ROWS.length; one++) {
            for (int two = one; two < ROWS.length; two++) {
                Schemabridge x = reading(ROWS[one]);
                Bridges.readOf(x, 0, ROWS[two]);
                Bridges.readOf(x, 1, ROWS[two]);
                same(x, "row " + one + " and row " + two, 0, 1, one == two);
                same(x, "row " + one + " and row " + two + " by another schema", 0, 2, one == two);
            }
        }
    }

    private static void promise23TheCanonicalOnes() {
        promise(23, "Returns whether two messages have the same canonical fields");
        Schemabridge x = reading(8, 1, 34, 0, 8, 0, 16, 3, 248, 1, 1, 10, 0);
        Bridges.readOf(x, 0, 10, 0, 248, 1, 1, 16, 131, 0, 34, 0);
        Bridges.readOf(x, 0, 34, 1, 9, 16, 3, 10, 0, 34, 0, 248, 1, 1, 29, 0, 0, 0, 0);
        same(x, "in other orders and with overridden ones", 0, 1, true);
        same(x, "with a default", 1, 2, true);
        same(x, "with itself", 0, 0, true);
        x.setDefault(0, 3, 1);
        same(x, "with what is no default any more", 1, 2, false);
        x.copy(0, 1);
        same(x, "with the same fields by a schema without kinds", 0, 3, false);
        same(x, "of no fields and of a default", x.create(1), Bridges.readOf(x, 0, 8, 0), true);
        same(x, "of no fields, twice", x.create(0), x.create(1), true);
    }

    /** The same bytes at other places of the row, and other bytes at the same places. */
    private static final int[][] ALIKE = {
        {34, 2, 5, 6, 248, 1, 1}, {248, 1, 1, 34, 1, 9, 34, 2, 5, 6}, {34, 0, 34, 1, 5, 34, 2, 5, 6, 248, 1, 1}};
    private static final int[][] UNLIKE = {
        {34, 2, 5, 7, 248, 1, 1}, {248, 1, 1, 34, 2, 5, 6, 34, 2, 6, 5}, {34, 2, 5, 6, 34, 1, 5, 248, 1, 1},
        {34, 2, 5, 6, 248, 1, 2}, {34, 2, 5, 6, 240, 1, 1}, {34, 2, 5, 6}, {34, 2, 5, 6, 248, 1, 1, 248, 1, 1}};

    private static void promise23BytesAtOtherPlaces() {
        promise(23, "the same canonical fields, compared field by field");
        for (int[] one : ALIKE) {
            for (int[] two : ALIKE) {
                Schemabridge x = reading(one);
                Bridges.readOf(x, 0, two);
                same(x, Arrays.toString(one) + " and " + Arrays.toString(two), 0, 1, true);
            }
            for (int[] two : UNLIKE) {
                Schemabridge x = reading(one);
                Bridges.readOf(x, 0, two);
                same(x, Arrays.toString(one) + " and " + Arrays.toString(two), 0, 1, false);
            }
        }
    }

    private static void promise24BytesAtOtherPlaces() {
        promise(24, "two messages have the same canonical bytes");
        for (int[] one : ALIKE) {
            for (int[] two : ALIKE) {
                Schemabridge x = reading(one);
                Bridges.readOf(x, 0, two);
                sameByBytes(x, Arrays.toString(one) + " and " + Arrays.toString(two), 0, 1, true);
            }
            for (int[] two : UNLIKE) {
                Schemabridge x = reading(one);
                Bridges.readOf(x, 0, two);
                sameByBytes(x, Arrays.toString(one) + " and " + Arrays.toString(two), 0, 1, false);
            }
        }
    }

    private static void promise23FullOnes() {
        promise(23, "the same canonical fields");
        int[] sixty = Bridges.pairs(120, 48, 5);
        int[] last = Bridges.joined(Bridges.pairs(118, 48, 5), 48, 6);
        int[] fewer = Bridges.pairs(118, 48, 5);
        Schemabridge x = reading(sixty);
        Bridges.readOf(x, 0, last);
        Bridges.readOf(x, 1, fewer);
        Bridges.readOf(x, 1, sixty);
        same(x, "sixty, of which the last differs", 0, 1, false);
        same(x, "sixty and fifty-nine", 0, 2, false);
        same(x, "sixty and sixty", 0, 3, true);
        Schemabridge full = Bridges.full();
        same(full, "two full ones", 0, 11, true);
        same(full, "a full one and one without fields", 0, 1, false);
    }

    private static void promise23NoSuchMessage() {
        promise(23, "if there is no such message, or no such other one");
        for (int message : NO_MESSAGES_OF_BUSY) {
            refused(PLACE, "message " + message, BUSY, x -> x.areSame(message, 0));
            refused(PLACE, "other message " + message, BUSY, x -> x.areSame(0, message));
            refused(PLACE, "message " + message + " and itself", BUSY, x -> x.areSame(message, message));
        }
        refused(PLACE, "the number 12 with twelve", FULL, x -> x.areSame(12, 0));
        refused(PLACE, "the other number 12 with twelve", FULL, x -> x.areSame(0, 12));
    }

    private static void promise24ByBytes() {
        promise(24, "Returns whether two messages have the same canonical bytes.");
        for (int one = 0; one < ROWS.length; one++) {
            for (int two = one; two < ROWS.length; two++) {
                Schemabridge x = reading(ROWS[one]);
                Bridges.readOf(x, 0, ROWS[two]);
                Bridges.readOf(x, 1, ROWS[two]);
                sameByBytes(x, "row " + one + " and row " + two, 0, 1, one == two);
                sameByBytes(x, "row " + one + " and row " + two + " by another schema", 0, 2, one == two);
                due("the tape after it", Bridges.told(x).equals(Bridges.written(x, 2)), true);
            }
        }
    }

    private static void promise24TheCanonicalOnes() {
        promise(24, "the same canonical bytes");
        Schemabridge x = reading(8, 1, 34, 0, 8, 0, 16, 3, 248, 1, 1, 10, 0);
        Bridges.readOf(x, 0, 10, 0, 248, 1, 1, 16, 131, 0, 34, 0);
        Bridges.readOf(x, 0, 34, 1, 9, 16, 3, 10, 0, 34, 0, 248, 1, 1, 29, 0, 0, 0, 0);
        sameByBytes(x, "in other orders and with overridden ones", 0, 1, true);
        sameByBytes(x, "with a default", 1, 2, true);
        sameByBytes(x, "with itself", 0, 0, true);
        x.setDefault(0, 3, 1);
        sameByBytes(x, "with what is no default any more", 1, 2, false);
        sameByBytes(x, "with the same fields by a schema without kinds", 0, x.copy(0, 1), false);
        sameByBytes(x, "of no fields and of a default", x.create(1), Bridges.readOf(x, 0, 8, 0), true);
        sameByBytes(x, "of no fields, twice", x.create(0), x.create(1), true);
        Schemabridge full = Bridges.full();
        sameByBytes(full, "two full ones", 0, 11, true);
        full.discard(5);
        full.discard(6);
        int[] last = new int[120];
        last[0] = 34;
        last[1] = 114;
        last[115] = 201;
        last[116] = 8;
        last[117] = 1;
        last[118] = 42;
        sameByBytes(full, "two full ones of which one byte differs", 0, Bridges.readOf(full, 0, last), false);
        sameByBytes(full, "a full one and one that lacks a field", 0, Bridges.readOf(full, 0, Arrays.copyOf(last, 118)), false);
    }

    private static void promise24NoSuchMessage() {
        promise(24, "if there is no such message, or no such other one");
        for (int message : NO_MESSAGES_OF_BUSY) {
            refused(PLACE, "message " + message, BUSY, x -> x.areSameByBytes(message, 0));
            refused(PLACE, "other message " + message, BUSY, x -> x.areSameByBytes(0, message));
            refused(PLACE, "message " + message + " and itself", BUSY, x -> x.areSameByBytes(message, message));
        }
        refused(PLACE, "the number 12 with twelve", FULL, x -> x.areSameByBytes(12, 0));
        refused(PLACE, "the other number 12 with twelve", FULL, x -> x.areSameByBytes(0, 12));
    }
}
