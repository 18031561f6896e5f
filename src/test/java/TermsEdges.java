import java.util.function.Supplier;

/** The edges that 'What it is' and 'Terms' name. */
final class TermsEdges extends Edges {
    /** Numbers at which one group more is needed, and where the sign of an int turns. */
    private static final int[] NUMBERS = {
        1, 127, 128, 16383, 16384, 2097151, 2097152, 268435455, 268435456, GREATEST, LEAST, -2, -1, 0};
    private static final String[] GROUPS = {
        "1", "127", "128 1", "255 127", "128 128 1", "255 255 127", "128 128 128 1", "255 255 255 127",
        "128 128 128 128 1", "255 255 255 255 7", "128 128 128 128 8", "254 255 255 255 15", "255 255 255 255 15", "0"};

    private static Schemabridge usual() {
        return Bridges.usual(1);
    }

    // ---- What it is

    private static void whatItIsAnOlderReader() {
        of("What it is", "a reader with an older schema keeps and passes on what it does not know");
        Schemabridge x = usual();
        x.setKind(1, 1, PLAIN, 0);
        int newer = Bridges.readOf(x, 0, 8, 1, 16, 5, 29, 4, 3, 2, 1, 34, 2, 65, 66, 42, 2, 8, 7, 248, 1, 9);
        x.write(newer);
        int older = x.read(1);
        due("what the older one does not know", Bridges.unknownTags(x, older), " 2 3 4 5 31");
        x.set(older, 1, 300);
        due("what it passes on", Bridges.written(x, older), "8 172 2 16 5 29 4 3 2 1 34 2 65 66 42 2 8 7 248 1 9");
        int back = x.read(0);
        due("what the older one has changed", x.get(back, 1), 300);
        due("a SIGNED that came by it", x.get(back, 2), -3);
        due("a FOUR that came by it", x.get(back, 3), 0x01020304);
        due("a TEXT that came by it", x.byteOf(back, 4, 1), (byte) 66);
        due("a PART that came by it", x.get(x.open(back, 5), 1), 7);
        due("what neither knows", Bridges.unknownTags(x, back), " 31");
    }

    private static void whatItIsThe512thCall() {
        of("What it is", "An object is used for at most 512 calls after it has been made");
        Schemabridge x = Bridges.full();
        // 147 calls have made it: 2 + 5 + 4 for the schemas, 1 + 120 for the tape, 12 for the messages, and 3 to come.
        x.discard(11);
        x.discard(10);
        x.discard(9);
        for (int calls = 147; calls < 511; calls += 2) {
            due("open", x.open(0, 5), 9);
            due("discard", x.discard(9), 0);
        }
        due("the 512th call", x.read(0), 9);
    }

    // ---- Schemas change

    private static void termsSchemasCanChange() {
        terms("Schemas can change at any time");
        Schemabridge x = Bridges.full();
        for (int kind = PLAIN; kind <= PART; kind++) {
            due("setKind with messages of the schema", x.setKind(0, 9, kind, 5), kind == PLAIN ? NONE : kind - 1);
        }
        due("dropKind of a kind that a field has", x.dropKind(0, 4), TEXT);
        due("setDefault of a kind that a field has", x.setDefault(0, 1, 1), 0);
        due("what is left of a full message then", x.write(0), 118);
    }

    private static void termsSchemasAsTheyAreNow() {
        terms("a message is always read by its schema as it is now");
        Schemabridge x = usual();
        int read = Bridges.readOf(x, 0, 8, 5, 42, 2, 8, 1);
        due("get as PLAIN", x.get(read, 1), 5);
        x.setKind(0, 1, SIGNED, 0);
        due("get as SIGNED", x.get(read, 1), -3);
        x.setKind(0, 1, FOUR, 0);
        due("has as FOUR", x.has(read, 1), false);
        due("unknowns as FOUR", x.unknowns(read), 1);
        due("get as FOUR", x.get(read, 1), 0);
        x.dropKind(0, 1);
        due("has without a kind", x.has(read, 1), false);
        x.setKind(0, 1, PLAIN, 0);
        due("get as PLAIN again", x.get(read, 1), 5);
        x.setDefault(0, 1, 5);
        due("write with the default that it has now", Bridges.written(x, read), "42 2 8 1");
        x.setDefault(0, 1, 4);
        due("write with another default", Bridges.written(x, read), "8 5 42 2 8 1");
        x.setKind(0, 5, PART, 0);
        due("schemaOf a part by the kind that it has now", x.schemaOf(x.open(read, 5)), 0);
        x.setKind(0, 5, TEXT, 0);
        due("byteOf as TEXT", x.byteOf(read, 5, 1), (byte) 1);
        due("weight, whatever the schema", x.weight(read), 6);
    }

    private static void termsTapeByteByByte() {
        terms("There is a tape of bytes on which messages are written and from which they are read byte by byte.");
        Schemabridge x = usual();
        x.create(0);
        x.set(0, 1, 300);
        x.append(0, 4, (byte) -1);
        x.write(0);
        due("what is written", Bridges.told(x), "8 172 2 34 1 255");
        for (int kept = 0; kept <= 6; kept++) {
            Bridges.lay(x, 8, 172, 2, 34, 1, 255);
            x.cut(kept);
            due("fault with " + kept + " bytes of it", x.fault(), kept == 0 || kept == 3 || kept == 6 ? 0 : 1);
        }
        due("what is read is the same", x.areSame(0, x.read(0)), true);
    }

    // ---- Fields

    private static void termsTagsOfFields() {
        terms("A field has a tag, 1 to 31, a type and a value");
        Schemabridge x = Bridges.withSchemas(1);
        int read = Bridges.readOf(x, 0, 8, 1, 10, 0, 13, 1, 0, 0, 0, 248, 1, 1, 250, 1, 0, 253, 1, 1, 0, 0, 0);
        due("the first and the last tag", Bridges.unknownTags(x, read), " 1 1 1 31 31 31");
        for (int type : new int[] {0, 2, 5}) {
            Bridges.lay(x, type, 0, 0, 0, 0);
            due("tag 0 with type " + type, x.fault(), 3);
            Bridges.lay(x, 128 + type, 2, 0, 0, 0, 0);
            due("tag 32 with type " + type, x.fault(), 3);
        }
    }

    private static void termsNumberOf32Bits() {
        terms("a NUMBER field (type 0) has 32 bits, told as an int");
        Schemabridge x = usual();
        due("2^31 - 1", x.get(Bridges.readOf(x, 0, 8, 255, 255, 255, 255, 7), 1), GREATEST);
        due("2^31", x.get(Bridges.readOf(x, 0, 8, 128, 128, 128, 128, 8), 1), LEAST);
        due("2^32 - 1", x.get(Bridges.readOf(x, 0, 8, 255, 255, 255, 255, 15), 1), -1);
        due("0", x.get(Bridges.readOf(x, 0, 8, 0), 1), 0);
        Bridges.lay(x, 8, 128, 128, 128, 128, 16);
        due("2^32, which is none", x.fault(), 2);
    }

    private static void termsBytesPerhapsNone() {
        terms("a BYTES field (type 2) has some bytes, perhaps none");
        Schemabridge x = usual();
        int none = Bridges.readOf(x, 0, 34, 0);
        due("has without bytes", x.has(none, 4), true);
        refused(ABSENT, "the first of no bytes", () -> {
            Schemabridge y = usual();
            Bridges.readOf(y, 0, 34, 0);
            return y;
        }, y -> y.byteOf(0, 4, 0));
        int one = Bridges.readOf(x, 0, 34, 1, 128);
        due("the first of one", x.byteOf(one, 4, 0), (byte) -128);
        int[] most = new int[120];
        most[0] = 34;
        most[1] = 118;
        most[119] = 7;
        due("the last of 118", x.byteOf(Bridges.readOf(x, 0, most), 4, 117), (byte) 7);
        int[] tooMany = Bridges.joined(most);
        tooMany[1] = 119;
        Bridges.lay(x, tooMany);
        due("119, for which no room is left", x.fault(), 1);
    }

    private static void termsFixedOf32Bits() {
        terms("a FIXED field (type 5) has 32 bits, too");
        Schemabridge x = usual();
        due("2^31 - 1", x.get(Bridges.readOf(x, 0, 29, 255, 255, 255, 127), 3), GREATEST);
        due("2^31", x.get(Bridges.readOf(x, 0, 29, 0, 0, 0, 128), 3), LEAST);
        due("2^32 - 1", x.get(Bridges.readOf(x, 0, 29, 255, 255, 255, 255), 3), -1);
        due("0", x.get(Bridges.readOf(x, 0, 29, 0, 0, 0, 0), 3), 0);
    }

    private static void termsSeveralFieldsAlike() {
        terms("A message has a schema and a row of fields, in which several may have the same tag and type.");
        Schemabridge x = usual();
        int known = Bridges.readOf(x, 0, Bridges.pairs(120, 8, 7));
        int unknown = x.copy(known, 1);
        due("unknowns of 60 alike", x.unknowns(unknown), 60);
        due("unknowns of 60 known ones", x.unknowns(known), 0);
        due("weight of 60 alike", x.weight(known), 120);
        due("how many fields they are", x.discard(known), 60);
        due("the schemas are apart", x.schemaOf(unknown), 1);
    }

    // ---- Bytes

    private static void termsGroupNumbersWritten() {
        terms("taken without sign, the lowest group first, as few groups as are needed (one for 0)");
        for (int each = 0; each < NUMBERS.length; each++) {
            Schemabridge x = usual();
            x.setDefault(0, 1, 99);
            x.create(0);
            x.set(0, 1, NUMBERS[each]);
            due("the bytes of " + NUMBERS[each], Bridges.written(x, 0), "8 " + GROUPS[each]);
            due("the weight of " + NUMBERS[each], x.weight(0), x.length());
            due("what is read of " + NUMBERS[each], x.get(x.read(0), 1), NUMBERS[each]);
        }
    }

    private static void termsGroupsBut128Added() {
        terms("each byte but the last has 128 added");
        Schemabridge x = usual();
        for (int group = 0; group < 4; group++) {
            int number = 1 << 7 * (group + 1);
            int read = x.create(0);
            x.set(read, 1, number);
            x.write(read);
            for (int place = 1; place < x.length(); place++) {
                due("byte " + place + " of " + number, x.byteAt(place), (byte) (place == group + 2 ? 1 : 128));
            }
            due("how many bytes " + number + " has", x.length(), group + 3);
        }
    }

    private static void termsKeysWritten() {
        terms("A field is written as the group number 8 * tag + type, and then its value: of a NUMBER field as a group number");
        for (int tag = 1; tag <= 31; tag++) {
            Schemabridge x = Bridges.withSchemas(1);
            x.create(0);
            x.setKind(0, tag, PLAIN, 0);
            x.set(0, tag, 128);
            due("NUMBER with tag " + tag, Bridges.written(x, 0), key(8 * tag) + " 128 1");
            x.setKind(0, tag, FOUR, 0);
            x.clear(0, tag);
            x.set(0, tag, 1);
            due("FIXED with tag " + tag, Bridges.written(x, 0), key(8 * tag + 5) + " 1 0 0 0");
            x.setKind(0, tag, TEXT, 0);
            x.clear(0, tag);
            x.append(0, tag, (byte) 6);
            due("BYTES with tag " + tag, Bridges.written(x, 0), key(8 * tag + 2) + " 1 6");
        }
    }

    private static String key(int number) {
        return number < 128 ? "" + number : number % 128 + 128 + " 1";
    }

    private static void termsBytesWritten() {
        terms("of a BYTES field the count of the bytes as a group number, and these bytes");
        Schemabridge x = usual();
        x.create(0);
        x.create(1);
        x.setPart(0, 5, 1);
        due("no bytes", Bridges.written(x, 0), "42 0");
        x.append(0, 5, (byte) 128);
        x.append(0, 5, (byte) 0);
        due("two bytes", Bridges.written(x, 0), "42 2 128 0");
        x.clear(0, 5);
        for (int bytes = 1; bytes <= 118; bytes++) {
            x.append(0, 4, (byte) bytes);
        }
        x.write(0);
        due("the count of 118", x.byteAt(1), (byte) 118);
        due("the first of 118", x.byteAt(2), (byte) 1);
        due("the last of 118", x.byteAt(119), (byte) 118);
    }

    private static void termsFourBytesWritten() {
        terms("of a FIXED field four bytes, the lowest first");
        int[] values = {0x81020304, LEAST, GREATEST, -1, 255, 1 << 24};
        String[] bytes = {"4 3 2 129", "0 0 0 128", "255 255 255 127", "255 255 255 255", "255 0 0 0", "0 0 0 1"};
        for (int each = 0; each < values.length; each++) {
            Schemabridge x = usual();
            x.create(0);
            x.set(0, 3, values[each]);
            due("the bytes of " + values[each], Bridges.written(x, 0), "29 " + bytes[each]);
        }
        Schemabridge x = usual();
        due("0, which needs no fewer", x.weight(Bridges.readOf(x, 0, 29, 0, 0, 0, 0)), 5);
    }

    private static void termsMoreGroupsInKeys() {
        terms("A reader also takes group numbers with more groups than are needed");
        int[][] keys = {{8}, {136, 0}, {136, 128, 0}, {136, 128, 128, 0}, {136, 128, 128, 128, 0}};
        int[][] numbers = {{5}, {133, 0}, {133, 128, 0}, {133, 128, 128, 0}, {133, 128, 128, 128, 0}};
        for (int[] key : keys) {
            for (int[] number : numbers) {
                Schemabridge x = usual();
                int read = Bridges.readOf(x, 0, Bridges.joined(key, number));
                due("a key of " + key.length + " and a number of " + number.length, x.get(read, 1), 5);
                due("its weight, as it is written", x.weight(read), 2);
                due("its bytes, as they are written", Bridges.written(x, read), "8 5");
            }
        }
        int[][] counts = {{1}, {129, 0}, {129, 128, 0}, {129, 128, 128, 0}, {129, 128, 128, 128, 0}};
        for (int[] count : counts) {
            Schemabridge x = usual();
            int read = Bridges.readOf(x, 0, Bridges.joined(Bridges.joined(new int[] {34}, count), 9, 8, 1));
            due("the byte behind a count of " + count.length, x.byteOf(read, 4, 0), (byte) 9);
            due("the field behind that", x.get(read, 1), 1);
            due("the weight of both", x.weight(read), 5);
        }
    }

    private static void termsAtMostFiveGroups() {
        terms("but at most five, of which the fifth is at most 15");
        int[][] heads = {{}, {8}, {34}};
        String[] names = {"key", "number", "count"};
        for (int each = 0; each < heads.length; each++) {
            for (int fifth : new int[] {0, 1, 15, 16, 17, 31, 32, 127, 128, 143, 144, 255}) {
                Schemabridge x = usual();
                Bridges.lay(x, Bridges.joined(heads[each], 136, 128, 128, 128, fifth, 0, 0));
                boolean isTaken = fifth <= 15;
                due("a fifth byte " + fifth + " of a " + names[each] + " is fault 2", x.fault() == 2, !isTaken);
            }
        }
        Schemabridge x = usual();
        due("the fifth byte 15", x.get(Bridges.readOf(x, 0, 8, 129, 128, 128, 128, 15), 1), 1 - (1 << 28));
        Supplier<Schemabridge> six = () -> {
            Schemabridge y = usual();
            Bridges.lay(y, 8, 128, 128, 128, 128, 128, 0);
            return y;
        };
        refused(ARGUMENT, "six groups", six, y -> y.read(0));
    }

    // ---- Schemas

    private static void termsSixSchemas() {
        terms("There are at most 6, numbered from 0.");
        Schemabridge x = new Schemabridge();
        for (int number = 0; number < 6; number++) {
            due("addSchema()", x.addSchema(), number);
        }
        due("the kind of the sixth", x.kindOf(5, 1), NONE);
        refused(STATE, "a seventh", () -> Bridges.withSchemas(6), y -> y.addSchema());
        refused(PLACE, "the number 6 with six", () -> Bridges.withSchemas(6), y -> y.kindOf(6, 1));
        refused(PLACE, "the number 5 with five", () -> Bridges.withSchemas(5), y -> y.kindOf(5, 1));
    }

    private static void termsKindForEachTag() {
        terms("A schema has for each tag no kind, or one of these: PLAIN, SIGNED, FOUR, TEXT, PART.");
        Schemabridge x = Bridges.withSchemas(2);
        for (int tag = 1; tag <= 31; tag++) {
            due("kindOf tag " + tag + " at first", x.kindOf(0, tag), NONE);
            x.setKind(0, tag, tag % 5, 1);
        }
        for (int tag = 1; tag <= 31; tag++) {
            due("kindOf tag " + tag, x.kindOf(0, tag), tag % 5);
            due("kindOf tag " + tag + " of the other schema", x.kindOf(1, tag), NONE);
        }
    }

    private static void termsTypesOfKinds() {
        terms("Their fields have the types NUMBER, NUMBER, FIXED, BYTES, BYTES.");
        int[] types = {Schemabridge.NUMBER, Schemabridge.NUMBER, Schemabridge.FIXED, Schemabridge.BYTES, Schemabridge.BYTES};
        for (int kind = PLAIN; kind <= PART; kind++) {
            for (int type : new int[] {Schemabridge.NUMBER, Schemabridge.BYTES, Schemabridge.FIXED}) {
                Schemabridge x = Bridges.withSchemas(1);
                x.setKind(0, 31, kind, 0);
                int[] value = type == Schemabridge.FIXED ? new int[] {0, 0, 0, 0} : new int[] {0};
                int read = Bridges.readOf(x, 0, Bridges.joined(new int[] {248 + type, 1}, value));
                due("kind " + kind + " knows type " + type, x.has(read, 31), types[kind] == type);
                due("kind " + kind + " does not know type " + type, x.unknowns(read), types[kind] == type ? 0 : 1);
            }
        }
    }

    private static void termsPlainAndFour() {
        terms("PLAIN and FOUR stand for the int itself");
        for (int value : NUMBERS) {
            Schemabridge x = usual();
            x.create(0);
            x.set(0, 1, value);
            x.set(0, 3, value);
            due("PLAIN " + value, x.get(0, 1), value);
            due("FOUR " + value, x.get(0, 3), value);
        }
    }

    private static void termsSignedWrapsAround() {
        terms("SIGNED stands for the int v as the NUMBER (v << 1) ^ (v >> 31).");
        int[] values = {0, -1, 1, -2, 63, -64, 64, -65, (1 << 30) - 1, -(1 << 30), 1 << 30, -(1 << 30) - 1, GREATEST, LEAST};
        int[] numbers = {0, 1, 2, 3, 126, 127, 128, 129, GREATEST - 1, GREATEST, LEAST, LEAST + 1, -2, -1};
        for (int each = 0; each < values.length; each++) {
            Schemabridge x = usual();
            x.create(0);
            x.set(0, 2, values[each]);
            due("get of " + values[each], x.get(0, 2), values[each]);
            x.setKind(0, 2, PLAIN, 0);
            due("the NUMBER of " + values[each], x.get(0, 2), numbers[each]);
            x.set(0, 2, numbers[each]);
            x.setKind(0, 2, SIGNED, 0);
            due("the int of NUMBER " + numbers[each], x.get(0, 2), values[each]);
        }
    }

    private static void termsTextIsSomeBytes() {
        terms("TEXT is some bytes.");
        Schemabridge x = usual();
        int read = Bridges.readOf(x, 0, 34, 6, 0, 127, 128, 255, 9, 34);
        int[] bytes = {0, 127, -128, -1, 9, 34};
        for (int place = 0; place < 6; place++) {
            due("byteOf " + place, x.byteOf(read, 4, place), (byte) bytes[place]);
        }
        due("unknowns", x.unknowns(read), 0);
        due("what is written", Bridges.written(x, read), "34 6 0 127 128 255 9 34");
    }

    private static void termsPartHasASchema() {
        terms("PART has a schema");
        Schemabridge x = Bridges.full();
        x.discard(11);
        for (int part = 0; part < 6; part++) {
            x.setKind(0, 5, PART, part);
            int opened = x.open(0, 5);
            due("the schema of a part", x.schemaOf(opened), part);
            x.discard(opened);
        }
    }

    private static void termsPartIsAMessage() {
        terms("its bytes are those of a message of this schema");
        Schemabridge x = usual();
        x.setKind(1, 1, PLAIN, 0);
        x.setKind(0, 6, PART, 1);
        int read = Bridges.readOf(x, 0, 42, 5, 8, 7, 8, 129, 0, 50, 0);
        int opened = x.open(read, 5);
        due("get by the schema of the part", x.get(opened, 1), 1);
        due("what the bytes are in the part", x.byteOf(read, 5, 3), (byte) 129);
        due("the weight of an empty part's message", x.weight(x.open(read, 6)), 0);
        due("bytes that are no message are some of it still", x.append(read, 5, (byte) 255), 6);
        due("has", x.has(read, 5), true);
    }

    private static void termsDefaultsAreZeroAtFirst() {
        terms("PLAIN, SIGNED and FOUR have a default, 0 at first.");
        Schemabridge x = usual();
        x.create(0);
        for (int tag = 1; tag <= 3; tag++) {
            due("get without a field", x.get(0, tag), 0);
            due("the default before", x.setDefault(0, tag, 1), 0);
        }
        refused(STATE, "TEXT has none", BUSY, y -> y.setDefault(0, 4, 0));
        refused(STATE, "PART has none", BUSY, y -> y.setDefault(0, 5, 0));
    }

    // ---- Known and unknown fields

    private static void termsKnownFields() {
        terms("A field of a message is known if its schema has a kind for its tag and the type is that of this kind");
        Schemabridge x = usual();
        int read = Bridges.readOf(x, 0, 8, 1, 13, 1, 0, 0, 0, 10, 0, 248, 1, 1);
        due("has by tag and type", x.has(read, 1), true);
        due("has without a kind", x.has(read, 31), false);
        due("the unknown ones", Bridges.unknownTags(x, read), " 1 1 31");
        x.setKind(0, 31, FOUR, 0);
        due("has by tag alone", x.has(read, 31), false);
        x.setKind(0, 31, SIGNED, 0);
        due("has by tag and type of another kind", x.has(read, 31), true);
    }

    private static void termsAllOthersAreUnknown() {
        terms("all others are unknown");
        Schemabridge x = usual();
        int read = Bridges.readOf(x, 0, 8, 1, 13, 1, 0, 0, 0, 10, 0, 248, 1, 1);
        due("unknowns by the schema", x.unknowns(read), 3);
        due("unknowns without kinds", x.unknowns(x.copy(read, 1)), 4);
        due("unknowns of known ones alone", x.unknowns(Bridges.readOf(x, 0, 8, 1, 16, 0, 29, 0, 0, 0, 0, 34, 0, 42, 0)), 0);
        due("unknowns of none", x.unknowns(x.create(0)), 0);
    }

    private static void termsTheLastKnownField() {
        terms("What a message has for a tag is the last known field with this tag.");
        Schemabridge x = usual();
        int read = Bridges.readOf(x, 0, 8, 1, 34, 1, 1, 8, 2, 16, 3, 13, 9, 0, 0, 0, 34, 2, 5, 6, 32, 9, 10, 1, 9);
        due("the last of two", x.get(read, 1), 2);
        due("the bytes of the last of two", x.byteOf(read, 4, 1), (byte) 6);
        due("the only one", x.get(read, 2), -2);
        int none = Bridges.readOf(x, 0, 13, 9, 0, 0, 0, 34, 2, 5, 6, 34, 0);
        due("an unknown one alone", x.has(none, 1), false);
        refused(ABSENT, "the last one has no bytes", () -> {
            Schemabridge y = usual();
            Bridges.readOf(y, 0, 34, 2, 5, 6, 34, 0);
            return y;
        }, y -> y.byteOf(0, 4, 0));
    }

    // ---- Canonical fields

    private static String canonical(int... bytes) {
        Schemabridge x = usual();
        return Bridges.written(x, Bridges.readOf(x, 0, bytes));
    }

    private static void termsCanonicalWithoutThoseOverridden() {
        terms("without those known ones that have a known one with the same tag behind them");
        due("of two", canonical(8, 1, 8, 2), "8 2");
        due("of two alike", canonical(8, 1, 8, 1), "8 1");
        due("of two apart", canonical(34, 1, 7, 8, 1, 34, 1, 6), "8 1 34 1 6");
        due("of two parts", canonical(42, 2, 8, 1, 42, 0), "42 0");
        due("of sixty", canonical(Bridges.joined(Bridges.pairs(118, 8, 7), 8, 6)), "8 6");
        due("an unknown one with the tag behind", canonical(8, 1, 10, 0), "8 1 10 0");
        due("a known one behind an unknown one", canonical(10, 0, 8, 1), "10 0 8 1");
        due("unknown ones alike", canonical(48, 0, 48, 0, 48, 1), "48 0 48 0 48 1");
    }

    private static void termsCanonicalWithoutDefaults() {
        terms("without those known ones of the kinds PLAIN, SIGNED and FOUR whose value stands for the default");
        due("0 of each kind", canonical(8, 0, 16, 0, 29, 0, 0, 0, 0), "");
        due("no bytes are no default", canonical(34, 0, 42, 0), "34 0 42 0");
        due("0 of an unknown one", canonical(48, 0, 53, 0, 0, 0, 0, 13, 0, 0, 0, 0), "13 0 0 0 0 48 0 53 0 0 0 0");
        for (int tag = 1; tag <= 3; tag++) {
            for (int value : new int[] {LEAST, -1, 1, GREATEST}) {
                Schemabridge x = usual();
                x.create(0);
                x.setDefault(0, tag, value);
                x.set(0, tag, value);
                due("the default " + value + " of tag " + tag, x.write(0), 0);
                x.set(0, tag, value + 1);
                due("one more than " + value + " of tag " + tag, x.write(0) > 0, true);
                x.set(0, tag, value - 1);
                due("one less than " + value + " of tag " + tag, x.write(0) > 0, true);
            }
        }
    }

    private static void termsCanonicalOfTwoNoneIsLeft() {
        terms("(of two with one tag none is left if the last one stands for the default)");
        due("the last is the default", canonical(8, 1, 8, 0), "");
        due("the first is the default", canonical(8, 0, 8, 1), "8 1");
        due("both are", canonical(8, 0, 8, 0), "");
        due("an unknown one between them stays", canonical(8, 1, 10, 0, 8, 0), "10 0");
        due("another tag between them stays", canonical(29, 1, 0, 0, 0, 16, 1, 29, 0, 0, 0, 0), "16 1");
    }

    private static void termsCanonicalOrder() {
        terms("they are ordered by their tags, those with the same tag as they come in the row");
        due("the last tag ahead of the first", canonical(248, 1, 1, 8, 1), "8 1 248 1 1");
        due("in order already", canonical(8, 1, 16, 1, 48, 1, 248, 1, 1), "8 1 16 1 48 1 248 1 1");
        due("the same tag with other types", canonical(53, 1, 0, 0, 0, 50, 0, 48, 2, 48, 1), "53 1 0 0 0 50 0 48 2 48 1");
        due("known among unknown ones", canonical(13, 1, 0, 0, 0, 8, 1, 10, 0), "13 1 0 0 0 8 1 10 0");
        int[] falling = new int[60];
        StringBuilder rising = new StringBuilder();
        for (int tag = 15; tag >= 1; tag--) {
            falling[60 - 4 * tag] = 8 * tag;
            falling[61 - 4 * tag] = tag;
            falling[62 - 4 * tag] = 8 * tag;
            falling[63 - 4 * tag] = 99;
        }
        for (int tag = 1; tag <= 15; tag++) {
            rising.append(tag == 1 ? "" : " ").append(8 * tag + " " + tag + " " + 8 * tag + " 99");
        }
        Schemabridge x = usual();
        due("thirty with fifteen tags", Bridges.written(x, Bridges.readOf(x, 1, falling)), rising.toString());
    }

    private static void termsCanonicalBytes() {
        terms("Its canonical bytes are those of the canonical fields, one after the other.");
        due("none of no fields", canonical(), "");
        due("of one of each type", canonical(8, 128, 1, 29, 1, 2, 3, 4, 34, 2, 8, 9), "8 128 1 29 1 2 3 4 34 2 8 9");
        due("with as few groups as are needed", canonical(136, 0, 129, 0, 162, 0, 129, 0, 9), "8 1 34 1 9");
        due("a part's bytes as they are", canonical(42, 4, 8, 129, 0, 9), "42 4 8 129 0 9");
    }

    // ---- Messages and the tape

    private static void termsTwelveMessages() {
        terms("There are at most 12 messages at a time");
        Schemabridge x = usual();
        for (int number = 0; number < 12; number++) {
            due("create", x.create(0), number);
        }
        due("the twelfth", x.schemaOf(11), 0);
        refused(STATE, "create of a thirteenth", FULL, y -> y.create(0));
        refused(STATE, "copy to a thirteenth", FULL, y -> y.copy(0, 0));
        refused(STATE, "open of a thirteenth", FULL, y -> y.open(0, 5));
        refused(STATE, "read of a thirteenth", FULL, y -> y.read(0));
        for (int time = 0; time < 20; time++) {
            due("one goes", x.discard(11), 0);
            due("one comes", x.create(1), 11);
        }
    }

    private static void termsTheLeastFreeNumber() {
        terms("a new one gets the least number from 0 on that is free");
        for (int call = 0; call < 4; call++) {
            Schemabridge x = Bridges.full();
            for (int gone : new int[] {11, 3, 7, 1}) {
                x.discard(gone);
            }
            for (int due : new int[] {1, 3, 7, 11}) {
                int got = call == 0 ? x.create(0) : call == 1 ? x.copy(0, 0) : call == 2 ? x.open(0, 5) : x.read(0);
                due("the number by call " + call, got, due);
            }
            x.discard(4);
            x.discard(0);
            due("the number 0 again", x.create(1), 0);
        }
    }

    private static void termsWeightOfAllFields() {
        terms("The weight of a message is how many bytes all its fields have when they are written.");
        Schemabridge x = usual();
        due("of no fields", x.weight(x.create(0)), 0);
        due("of those that are not canonical, too", x.weight(Bridges.readOf(x, 0, 8, 0, 8, 0, 248, 1, 0, 34, 0, 34, 0)), 11);
        due("with fewer groups than were read", x.weight(Bridges.readOf(x, 0, 136, 0, 128, 0)), 2);
    }

    private static void termsWeightAtMost120() {
        terms("It is at most 120.");
        Schemabridge x = Bridges.full();
        due("weight", x.weight(0), 120);
        x.set(0, 1, 127);
        due("weight with another value", x.weight(0), 120);
        refused(STATE, "set of one byte more", FULL, y -> y.set(0, 1, 128));
        refused(STATE, "set of another field", FULL, y -> y.set(0, 2, 0));
        refused(STATE, "append of one byte more to TEXT", FULL, y -> y.append(0, 4, (byte) 0));
        refused(STATE, "append of one byte more to PART", FULL, y -> y.append(0, 5, (byte) 0));
        refused(STATE, "setPart of two bytes more", () -> {
            Schemabridge y = Bridges.full();
            y.setKind(1, 1, PLAIN, 0);
            y.set(1, 1, 1);
            return y;
        }, y -> y.setPart(0, 5, 1));
    }

    private static void termsTapeOf120() {
        terms("The tape has 0 to 120 bytes, none at first.");
        Schemabridge x = new Schemabridge();
        due("length at first", x.length(), 0);
        for (int bytes = 1; bytes <= 120; bytes++) {
            due("put", x.put((byte) bytes), bytes);
        }
        refused(STATE, "put of one byte more", FULL, y -> y.put((byte) 0));
        due("write of a full message", Bridges.full().write(0), 120);
        due("cut to none", x.cut(0), 120);
        due("length then", x.length(), 0);
    }

    // ---- Exceptions

    /** Each call is wrong in all ways that it can be at once; those of one exception alone stand with the promises. */
    private static void termsTheFirstNamedExceptionIsThrown() {
        terms("If several exceptions apply to a call, the one that its throws clause names first is thrown");
        refused(PLACE, "setKind", FULL, y -> y.setKind(6, 0, 5, 0));
        refused(PLACE, "setKind of a part", FULL, y -> y.setKind(0, 0, PART, 6));
        refused(PLACE, "dropKind", FULL, y -> y.dropKind(6, 0));
        refused(PLACE, "setDefault", FULL, y -> y.setDefault(6, 0, 0));
        refused(ARGUMENT, "setDefault of no tag", FULL, y -> y.setDefault(0, 32, 0));
        refused(PLACE, "kindOf", FULL, y -> y.kindOf(6, 0));
        refused(PLACE, "create", FULL, y -> y.create(6));
        refused(PLACE, "copy of no message", FULL, y -> y.copy(12, 0));
        refused(PLACE, "copy with no schema", FULL, y -> y.copy(0, 6));
        refused(PLACE, "set", FULL, y -> y.set(12, 0, 0));
        refused(ARGUMENT, "set of TEXT", FULL, y -> y.set(0, 4, 0));
        refused(PLACE, "append", FULL, y -> y.append(12, 0, (byte) 0));
        refused(ARGUMENT, "append to PLAIN", FULL, y -> y.append(0, 1, (byte) 0));
        refused(PLACE, "setPart to no message", FULL, y -> y.setPart(12, 0, 0));
        refused(PLACE, "setPart with no other", FULL, y -> y.setPart(0, 0, 12));
        refused(ARGUMENT, "setPart of TEXT", FULL, y -> y.setPart(0, 4, 0));
        refused(ARGUMENT, "setPart of another schema", FULL, y -> y.setPart(0, 5, 11));
        refused(PLACE, "clear", FULL, y -> y.clear(12, 0));
        refused(PLACE, "has", FULL, y -> y.has(12, 0));
        refused(PLACE, "get", FULL, y -> y.get(12, 0));
        refused(PLACE, "byteOf", FULL, y -> y.byteOf(12, 0, -1));
        refused(ARGUMENT, "byteOf PLAIN", FULL, y -> y.byteOf(0, 1, -1));
        refused(PLACE, "open", FULL, y -> y.open(12, 0));
        refused(ARGUMENT, "open of TEXT", FULL, y -> y.open(0, 4));
        refused(ABSENT, "open of nothing", () -> {
            Schemabridge y = Bridges.full();
            y.clear(0, 5);
            return y;
        }, y -> y.open(0, 5));
        Supplier<Schemabridge> faulty = () -> {
            Schemabridge y = Bridges.full();
            y.cut(119);
            return y;
        };
        refused(PLACE, "read", faulty, y -> y.read(6));
        refused(ARGUMENT, "read with a fault", faulty, y -> y.read(0));
    }

    /** What has been refused is taken as soon as its reason is gone, and then does what it always does. */
    private static void termsACallThatThrowsChangesNothing() {
        terms("a call that throws changes nothing");
        refused(STATE, "a set that would remove others", () -> {
            Schemabridge y = Bridges.full();
            y.set(0, 1, 127);
            return y;
        }, y -> y.set(0, 1, GREATEST));
        refused(ARGUMENT, "a read of good fields and a fault", () -> {
            Schemabridge y = Bridges.busy();
            Bridges.lay(y, 8, 1, 34, 1, 7, 9);
            return y;
        }, y -> y.read(0));
        refused(STATE, "an open of good fields and a fault", () -> {
            Schemabridge y = usual();
            Bridges.readOf(y, 0, 42, 5, 8, 1, 8, 1, 8);
            return y;
        }, y -> y.open(0, 5));
        Schemabridge x = Bridges.full();
        Checks.thrownBy(() -> x.create(1));
        x.discard(6);
        due("create after a refused one", x.create(1), 6);
        Checks.thrownBy(() -> x.append(0, 5, (byte) 1));
        x.clear(0, 1);
        due("append after a refused one", x.append(0, 5, (byte) 1), 1);
        Checks.thrownBy(() -> x.put((byte) 1));
        due("what is on the tape after a refused put", x.cut(119), 1);
    }

    // ---- The constants

    private static void termsConstants() {
        terms("`NUMBER = 0, BYTES = 2, FIXED = 5`: Types of fields.");
        due("NUMBER", Schemabridge.NUMBER, 0);
        due("BYTES", Schemabridge.BYTES, 2);
        due("FIXED", Schemabridge.FIXED, 5);
        terms("Kinds of fields in a schema.");
        due("PLAIN", Schemabridge.PLAIN, 0);
        due("SIGNED", Schemabridge.SIGNED, 1);
        due("FOUR", Schemabridge.FOUR, 2);
        due("TEXT", Schemabridge.TEXT, 3);
        due("PART", Schemabridge.PART, 4);
        terms("There is none.");
        due("NONE", Schemabridge.NONE, -1);
    }
}
