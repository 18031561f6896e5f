import java.util.function.Supplier;

/** The edges that promises 8 to 14 name: messages and their changes. */
final class MessagesEdges extends Edges {
    private static Schemabridge usual() {
        return Bridges.usual(1);
    }

    /** A message 0 that weighs so much, with bytes for tag 4 alone. */
    private static Schemabridge weighing(int weight) {
        Schemabridge x = usual();
        int[] bytes = new int[weight];
        bytes[0] = 34;
        bytes[1] = weight - 2;
        Bridges.readOf(x, 0, bytes);
        return x;
    }

    /** The whole row of message 0 and its order: what is told after all kinds are gone. */
    private static String row(Schemabridge x) {
        for (int tag = 1; tag <= 31; tag++) {
            x.dropKind(x.schemaOf(0), tag);
        }
        return Bridges.unknownTags(x, 0).strip() + " | " + Bridges.written(x, 0);
    }

    // ---- Promise 8

    private static void promise8WithoutFields() {
        promise(8, "Makes a message without fields.");
        Schemabridge x = usual();
        x.setDefault(0, 1, 5);
        int made = x.create(0);
        due("weight", x.weight(made), 0);
        due("unknowns", x.unknowns(made), 0);
        due("has", x.has(made, 1), false);
        due("get", x.get(made, 1), 5);
        due("schemaOf", x.schemaOf(made), 0);
        due("discard", x.discard(made), 0);
        Schemabridge y = Bridges.full();
        y.discard(0);
        y.create(0);
        due("weight where a full one was", y.weight(0), 0);
    }

    private static void promise8Number() {
        promise(8, "Returns its number.");
        Schemabridge x = usual();
        for (int number = 0; number < 12; number++) {
            due("create", x.create(number % 2), number);
        }
        x.discard(5);
        due("create in between", x.create(1), 5);
        due("schemaOf", x.schemaOf(5), 1);
    }

    private static void promise8NoSuchSchema() {
        promise(8, "if there is no such schema");
        due("the last schema", Bridges.busy().create(1), 1);
        for (int schema : NO_SCHEMAS_OF_BUSY) {
            refused(PLACE, "schema " + schema, BUSY, x -> x.create(schema));
        }
        refused(PLACE, "the number 6 with six, and 12 messages", FULL, x -> x.create(6));
        refused(PLACE, "the number -1, and 12 messages", FULL, x -> x.create(-1));
    }

    private static void promise8AtMostTwelve() {
        promise(8, "Throws `IllegalStateException` if there are 12 messages");
        Supplier<Schemabridge> eleven = () -> {
            Schemabridge x = Bridges.full();
            x.discard(11);
            return x;
        };
        due("the twelfth", eleven.get().create(5), 11);
        refused(STATE, "the thirteenth", FULL, x -> x.create(5));
    }

    // ---- Promise 9

    private static void promise9SameFields() {
        promise(9, "Makes a message with the same fields as another one");
        Schemabridge x = usual();
        int[] bytes = {248, 1, 1, 8, 0, 8, 0, 13, 1, 0, 0, 0, 34, 0, 10, 2, 8, 9, 16, 7};
        int read = Bridges.readOf(x, 0, bytes);
        int copied = x.copy(read, 1);
        due("the order, with those that are not canonical", Bridges.unknownTags(x, copied), " 31 1 1 1 4 1 2");
        due("what is written without kinds", Bridges.written(x, copied), "8 0 8 0 13 1 0 0 0 10 2 8 9 16 7 34 0 248 1 1");
        due("weight", x.weight(copied), 20);
        due("the fields of the one that was copied", x.discard(read), 7);
        due("the fields of the copy after that", x.discard(copied), 7);
        Schemabridge full = Bridges.full();
        full.discard(5);
        due("copy of a full one", full.copy(0, 0), 5);
        due("its weight", full.weight(5), 120);
        full.discard(5);
        full.copy(4, 0);
        due("the weight of a copy without fields", full.weight(5), 0);
    }

    private static void promise9CopiesAreApart() {
        promise(9, "with the same fields as another one");
        Schemabridge x = usual();
        x.create(0);
        x.set(0, 1, 1);
        x.copy(0, 0);
        x.set(0, 1, 2);
        due("get of the copy after the other one's change", x.get(1, 1), 1);
        x.set(1, 1, 3);
        due("get of the other one after the copy's change", x.get(0, 1), 2);
        x.clear(1, 1);
        due("has of the other one", x.has(0, 1), true);
    }

    private static void promise9AndWithASchema() {
        promise(9, "and with a schema");
        Schemabridge x = usual();
        int read = Bridges.readOf(x, 0, 8, 1);
        due("schemaOf a copy with another", x.schemaOf(x.copy(read, 1)), 1);
        due("schemaOf a copy with the same", x.schemaOf(x.copy(read, 0)), 0);
        due("schemaOf the one that was copied", x.schemaOf(read), 0);
        due("unknowns by the other", x.unknowns(1), 1);
        due("unknowns by the same", x.unknowns(2), 0);
    }

    private static void promise9Number() {
        promise(9, "Returns its number.");
        Schemabridge x = usual();
        x.create(0);
        for (int number = 1; number < 12; number++) {
            due("copy", x.copy(0, 1), number);
        }
        x.discard(0);
        due("copy to number 0", x.copy(11, 1), 0);
    }

    private static void promise9NoSuchMessageOrSchema() {
        promise(9, "if there is no such message or schema");
        due("the last message to the last schema", Bridges.busy().copy(2, 1), 1);
        for (int message : NO_MESSAGES_OF_BUSY) {
            refused(PLACE, "message " + message, BUSY, x -> x.copy(message, 0));
        }
        for (int schema : NO_SCHEMAS_OF_BUSY) {
            refused(PLACE, "schema " + schema, BUSY, x -> x.copy(0, schema));
        }
        refused(PLACE, "neither", BUSY, x -> x.copy(1, 2));
        refused(PLACE, "message 12, and 12 messages", FULL, x -> x.copy(12, 0));
        refused(PLACE, "schema 6, and 12 messages", FULL, x -> x.copy(11, 6));
    }

    private static void promise9AtMostTwelve() {
        promise(9, "Throws `IllegalStateException` if there are 12 messages");
        Schemabridge x = Bridges.full();
        x.discard(11);
        due("the twelfth", x.copy(0, 0), 11);
        refused(STATE, "the thirteenth", FULL, y -> y.copy(11, 5));
    }

    // ---- Promise 10

    private static void promise10TakesAway() {
        promise(10, "Takes a message away.");
        for (int message : new int[] {0, 5, 11}) {
            Schemabridge x = Bridges.full();
            x.discard(message);
            due("schemaOf", Checks.thrownBy(() -> x.schemaOf(message)), "IndexOutOfBoundsException");
            due("discard again", Checks.thrownBy(() -> x.discard(message)), "IndexOutOfBoundsException");
            due("its number is free", x.create(0), message);
        }
        Schemabridge x = Bridges.full();
        x.discard(0);
        due("the weight of another one", x.weight(11), 120);
        due("the tape", x.length(), 120);
    }

    private static void promise10HowManyFields() {
        promise(10, "Returns how many fields it had.");
        Schemabridge x = usual();
        due("of none", x.discard(x.create(0)), 0);
        due("of one", x.discard(Bridges.readOf(x, 0, 8, 0)), 1);
        due("of one with 118 bytes", weighing(120).discard(0), 1);
        due("of known and unknown ones", x.discard(Bridges.readOf(x, 0, 8, 1, 8, 1, 13, 0, 0, 0, 0, 248, 1, 1)), 4);
        due("of sixty known ones", x.discard(Bridges.readOf(x, 0, Bridges.pairs(120, 8, 0))), 60);
        due("of sixty unknown ones", x.discard(Bridges.readOf(x, 1, Bridges.pairs(120, 10, 0))), 60);
        due("of fifty-nine", x.discard(Bridges.readOf(x, 1, Bridges.joined(Bridges.pairs(116, 10, 0), 248, 1, 1))), 59);
    }

    private static void promise10NoSuchMessage() {
        promise(10, "if there is no such message");
        for (int message : NO_MESSAGES_OF_BUSY) {
            refused(PLACE, "message " + message, BUSY, x -> x.discard(message));
        }
        refused(PLACE, "the number 12 with twelve", FULL, x -> x.discard(12));
        refused(PLACE, "the number -1 with twelve", FULL, x -> x.discard(-1));
    }

    // ---- Promise 11

    private static void promise11AllKnownOnesAreRemoved() {
        promise(11, "Sets an int: all known fields with the tag are removed");
        Schemabridge x = usual();
        Bridges.readOf(x, 0, 8, 1, 8, 2, 16, 6, 8, 3, 16, 8);
        x.set(0, 1, 9);
        due("the row", row(x), "2 2 1 | 8 9 16 6 16 8");
        Schemabridge sixty = usual();
        Bridges.readOf(sixty, 0, Bridges.pairs(120, 8, 7));
        sixty.set(0, 1, -1);
        due("the row of sixty", row(sixty), "1 | 8 255 255 255 255 15");
    }

    private static void promise11UnknownOnesStay() {
        promise(11, "all known fields with the tag are removed");
        Schemabridge x = usual();
        Bridges.readOf(x, 0, 13, 7, 0, 0, 0, 8, 1, 10, 1, 5, 248, 1, 1);
        x.set(0, 1, 9);
        due("the row", row(x), "1 1 31 1 | 13 7 0 0 0 10 1 5 8 9 248 1 1");
        Schemabridge four = usual();
        Bridges.readOf(four, 0, 24, 1, 29, 1, 0, 0, 0, 26, 0);
        four.set(0, 3, 9);
        due("the row with FOUR", row(four), "3 3 3 | 24 1 26 0 29 9 0 0 0");
    }

    private static void promise11ComesLast() {
        promise(11, "and a field with the value comes last in the row");
        Schemabridge x = usual();
        Bridges.readOf(x, 0, 8, 1, 16, 1, 34, 0, 248, 1, 1);
        x.set(0, 2, 0);
        x.set(0, 3, 0);
        x.set(0, 1, 0);
        due("the row, in which defaults are told as well", row(x), "4 31 2 3 1 | 8 0 16 0 29 0 0 0 0 34 0 248 1 1");
        Schemabridge two = usual();
        Bridges.readOf(two, 0, 8, 1, 16, 1);
        two.set(0, 1, 1);
        due("the row of two, with the value that was there", row(two), "2 1 | 8 1 16 1");
    }

    private static void promise11OfEachInt() {
        promise(11, "Sets an int");
        for (int value : new int[] {LEAST, LEAST + 1, -65, -64, -1, 0, 1, 63, 64, 127, 128, 1 << 30, GREATEST}) {
            for (int tag = 1; tag <= 3; tag++) {
                Schemabridge x = usual();
                x.create(0);
                x.set(0, tag, value);
                due("get tag " + tag, x.get(0, tag), value);
                due("has tag " + tag, x.has(0, tag), true);
                due("write tag " + tag, x.write(0), value == 0 ? 0 : x.weight(0));
            }
        }
    }

    private static void promise11NoSuchMessage() {
        promise(11, "if there is no such message");
        for (int message : NO_MESSAGES_OF_BUSY) {
            refused(PLACE, "message " + message, BUSY, x -> x.set(message, 1, 1));
            refused(PLACE, "message " + message + " and no tag", BUSY, x -> x.set(message, 0, 1));
        }
        refused(PLACE, "the number 12 with twelve", FULL, x -> x.set(12, 1, 1));
    }

    private static void promise11NoInt() {
        promise(11, "if the schema of the message has not PLAIN, SIGNED or FOUR for the tag");
        refused(ARGUMENT, "TEXT", BUSY, x -> x.set(0, 4, 1));
        refused(ARGUMENT, "PART", BUSY, x -> x.set(0, 5, 1));
        refused(ARGUMENT, "no kind", BUSY, x -> x.set(0, 6, 1));
        refused(ARGUMENT, "no kind, but an unknown field", BUSY, x -> x.set(0, 31, 1));
        refused(ARGUMENT, "a kind in another schema alone", () -> {
            Schemabridge x = Bridges.busy();
            x.copy(0, 1);
            return x;
        }, x -> x.set(1, 2, 1));
        for (int tag : NO_TAGS) {
            refused(ARGUMENT, "tag " + tag, BUSY, x -> x.set(0, tag, 1));
        }
        refused(ARGUMENT, "TEXT, and above 120", FULL, x -> x.set(0, 4, 1));
        refused(ARGUMENT, "tag 0, and above 120", FULL, x -> x.set(0, 0, 1));
    }

    private static void promise11Above120() {
        promise(11, "if the weight would be above 120");
        int[] values = {127, 128, 16383, 16384, 2097151, 2097152, 268435455, 268435456, GREATEST, LEAST, -1};
        int[] bytes = {2, 3, 3, 4, 4, 5, 5, 6, 6, 6, 6};
        for (int each = 0; each < values.length; each++) {
            int value = values[each];
            int most = 120 - bytes[each];
            Schemabridge x = weighing(most);
            taken("PLAIN " + value + " just up to 120", x, y -> y.set(0, 1, value));
            due("weight", x.weight(0), 120);
            refused(STATE, "PLAIN " + value + " one above 120", () -> weighing(most + 1), y -> y.set(0, 1, value));
        }
        Schemabridge x = weighing(115);
        taken("FOUR just up to 120", x, y -> y.set(0, 3, 0));
        due("weight", x.weight(0), 120);
        refused(STATE, "FOUR one above 120", () -> weighing(116), y -> y.set(0, 3, 0));
        int[] signed = {63, 64, -64, -65};
        for (int value : signed) {
            int most = value == 63 || value == -64 ? 118 : 117;
            Schemabridge z = weighing(most);
            taken("SIGNED " + value + " just up to 120", z, y -> y.set(0, 2, value));
            due("weight", z.weight(0), 120);
            refused(STATE, "SIGNED " + value + " one above 120", () -> weighing(most + 1), y -> y.set(0, 2, value));
        }
    }

    private static void promise11Above120WithTwoBytesOfKey() {
        promise(11, "the weight would be above 120");
        for (int tag : new int[] {15, 16, 31}) {
            int most = tag == 15 ? 118 : 117;
            Supplier<Schemabridge> above = () -> {
                Schemabridge x = weighing(most + 1);
                x.setKind(0, tag, PLAIN, 0);
                return x;
            };
            Schemabridge x = weighing(most);
            x.setKind(0, tag, PLAIN, 0);
            taken("tag " + tag + " just up to 120", x, y -> y.set(0, tag, 0));
            due("weight", x.weight(0), 120);
            refused(STATE, "tag " + tag + " one above 120", above, y -> y.set(0, tag, 0));
        }
    }

    private static void promise11WhatIsRemovedMakesRoom() {
        promise(11, "the weight would be");
        Schemabridge x = Bridges.full();
        taken("another value of one byte in a full message", x, y -> y.set(0, 1, 127));
        due("weight", x.weight(0), 120);
        refused(STATE, "a value of two bytes in a full message", FULL, y -> y.set(0, 1, 128));
        Schemabridge sixty = usual();
        Bridges.readOf(sixty, 0, Bridges.pairs(120, 8, 7));
        taken("the largest in the place of sixty", sixty, y -> y.set(0, 1, -1));
        due("weight", sixty.weight(0), 6);
        refused(STATE, "another tag beside sixty", () -> {
            Schemabridge y = usual();
            Bridges.readOf(y, 0, Bridges.pairs(120, 8, 7));
            return y;
        }, y -> y.set(0, 2, 0));
        refused(STATE, "a tag beside sixty unknown ones with it", () -> {
            Schemabridge y = usual();
            Bridges.readOf(y, 0, Bridges.pairs(120, 10, 0));
            return y;
        }, y -> y.set(0, 1, 0));
    }

    // ---- Promise 12

    private static void promise12AllKnownOnesAreRemoved() {
        promise(12, "Appends a byte to a TEXT or a PART: all known fields with the tag are removed");
        Schemabridge x = usual();
        Bridges.readOf(x, 0, 34, 1, 5, 42, 0, 34, 2, 6, 7, 34, 1, 8, 42, 1, 9);
        due("append", x.append(0, 4, (byte) 1), 2);
        due("the row", row(x), "5 5 4 | 34 2 8 1 42 0 42 1 9");
        Schemabridge sixty = usual();
        Bridges.readOf(sixty, 0, Bridges.pairs(120, 34, 0));
        due("append to the last of sixty", sixty.append(0, 4, (byte) 1), 1);
        due("the row of sixty", row(sixty), "4 | 34 1 1");
    }

    private static void promise12UnknownOnesStay() {
        promise(12, "all known fields with the tag are removed");
        Schemabridge x = usual();
        Bridges.readOf(x, 0, 32, 7, 34, 1, 5, 37, 1, 0, 0, 0, 248, 1, 1);
        due("append", x.append(0, 4, (byte) 6), 2);
        due("the row", row(x), "4 4 31 4 | 32 7 37 1 0 0 0 34 2 5 6 248 1 1");
    }

    private static void promise12ComesLast() {
        promise(12, "and a field comes last in the row");
        Schemabridge x = usual();
        Bridges.readOf(x, 0, 42, 0, 34, 0, 8, 1, 48, 1);
        x.append(0, 4, (byte) 1);
        x.append(0, 5, (byte) 2);
        due("the row", row(x), "1 6 4 5 | 8 1 34 1 1 42 1 2 48 1");
        Schemabridge two = usual();
        Bridges.readOf(two, 0, 34, 1, 1, 8, 1);
        two.append(0, 4, (byte) 2);
        due("the row of two", row(two), "1 4 | 8 1 34 2 1 2");
    }

    private static void promise12TheBytesThatItHad() {
        promise(12, "that has the bytes that the message had for the tag (none without a field) and this one behind them");
        Schemabridge x = usual();
        x.create(0);
        due("append without a field", x.append(0, 4, (byte) -128), 1);
        due("append behind one", x.append(0, 4, (byte) 127), 2);
        due("append behind two", x.append(0, 4, (byte) 0), 3);
        due("the bytes", Bridges.written(x, 0), "34 3 128 127 0");
        due("append behind those of the last field", append(34, 3, 1, 2, 3, 34, 1, 9), "34 2 9 77");
        due("append behind a last field without bytes", append(34, 3, 1, 2, 3, 34, 0), "34 1 77");
        due("append beside an unknown field with the tag", append(32, 5), "32 5 34 1 77");
        due("append with another tag's bytes", append(42, 2, 1, 2), "34 1 77 42 2 1 2");
    }

    private static String append(int... bytes) {
        Schemabridge x = usual();
        Bridges.readOf(x, 0, bytes);
        x.append(0, 4, (byte) 77);
        return Bridges.written(x, 0);
    }

    private static void promise12ToAPart() {
        promise(12, "Appends a byte to a TEXT or a PART");
        Schemabridge x = usual();
        x.create(0);
        due("append of half a field", x.append(0, 5, (byte) 8), 1);
        due("open of that", Checks.thrownBy(() -> x.open(0, 5)), "IllegalStateException");
        due("append of the other half", x.append(0, 5, (byte) 1), 2);
        due("open then", x.open(0, 5), 1);
        due("what is opened", Bridges.written(x, 1), "8 1");
    }

    private static void promise12HowManyBytes() {
        promise(12, "Returns how many bytes the field has.");
        Schemabridge x = usual();
        x.create(0);
        for (int bytes = 1; bytes <= 118; bytes++) {
            due("append", x.append(0, 4, (byte) bytes), bytes);
        }
        for (int place = 0; place < 118; place++) {
            due("byteOf", x.byteOf(0, 4, place), (byte) (place + 1));
        }
    }

    private static void promise12NoSuchMessage() {
        promise(12, "if there is no such message");
        for (int message : NO_MESSAGES_OF_BUSY) {
            refused(PLACE, "message " + message, BUSY, x -> x.append(message, 4, (byte) 1));
            refused(PLACE, "message " + message + " and no tag", BUSY, x -> x.append(message, 0, (byte) 1));
        }
        refused(PLACE, "the number 12 with twelve", FULL, x -> x.append(12, 4, (byte) 1));
    }

    private static void promise12NoBytes() {
        promise(12, "if the schema of the message has not TEXT or PART for the tag");
        for (int tag : new int[] {1, 2, 3, 6, 31}) {
            refused(ARGUMENT, "tag " + tag, BUSY, x -> x.append(0, tag, (byte) 1));
            refused(ARGUMENT, "tag " + tag + ", and above 120", FULL, x -> x.append(0, tag, (byte) 1));
        }
        for (int tag : NO_TAGS) {
            refused(ARGUMENT, "tag " + tag, BUSY, x -> x.append(0, tag, (byte) 1));
        }
        refused(ARGUMENT, "tag 0, and above 120", FULL, x -> x.append(0, 0, (byte) 1));
        refused(ARGUMENT, "a kind in another schema alone", () -> {
            Schemabridge x = Bridges.busy();
            x.copy(0, 1);
            return x;
        }, x -> x.append(1, 4, (byte) 1));
    }

    private static void promise12Above120() {
        promise(12, "if the weight would be above 120");
        Schemabridge x = weighing(119);
        due("one more byte up to 120", x.append(0, 4, (byte) 9), 118);
        due("weight", x.weight(0), 120);
        refused(STATE, "one byte above 120", () -> weighing(120), y -> y.append(0, 4, (byte) 9));
        Schemabridge z = weighing(117);
        due("a new field up to 120", z.append(0, 5, (byte) 9), 1);
        due("weight", z.weight(0), 120);
        refused(STATE, "a new field one above 120", () -> weighing(118), y -> y.append(0, 5, (byte) 9));
        refused(STATE, "a new field three above 120", () -> weighing(120), y -> y.append(0, 5, (byte) 9));
    }

    private static void promise12Above120WithTwoBytesOfKey() {
        promise(12, "the weight would be above 120");
        for (int tag : new int[] {15, 16, 31}) {
            int most = tag == 15 ? 117 : 116;
            Schemabridge x = weighing(most);
            x.setKind(0, tag, TEXT, 0);
            due("tag " + tag + " just up to 120", x.append(0, tag, (byte) 0), 1);
            due("weight", x.weight(0), 120);
            refused(STATE, "tag " + tag + " one above 120", () -> {
                Schemabridge y = weighing(most + 1);
                y.setKind(0, tag, TEXT, 0);
                return y;
            }, y -> y.append(0, tag, (byte) 0));
        }
    }

    private static void promise12WhatIsRemovedMakesRoom() {
        promise(12, "the weight would be");
        Schemabridge x = usual();
        Bridges.readOf(x, 0, Bridges.pairs(120, 34, 0));
        due("append to the last of sixty", x.append(0, 4, (byte) 9), 1);
        due("weight", x.weight(0), 3);
        Schemabridge two = usual();
        int[] first = Bridges.joined(new int[] {34, 56}, new int[56]);
        int[] second = Bridges.joined(new int[] {34, 60}, new int[60]);
        Bridges.readOf(two, 0, Bridges.joined(first, second));
        due("weight of two", two.weight(0), 120);
        due("append to the second of two", two.append(0, 4, (byte) 9), 61);
        due("weight", two.weight(0), 63);
        refused(STATE, "append beside sixty unknown ones with the tag", () -> {
            Schemabridge y = usual();
            Bridges.readOf(y, 0, Bridges.pairs(120, 32, 0));
            return y;
        }, y -> y.append(0, 4, (byte) 9));
    }

    // ---- Promise 13

    /** Message 0 by schema 0, whose tag 5 is a part of schema 1; message 1 by schema 1, with so many bytes for tag 1. */
    private static Schemabridge withPart(int weight, int partBytes) {
        Schemabridge x = usual();
        x.setKind(1, 1, TEXT, 0);
        int[] bytes = new int[weight];
        if (weight > 0) {
            bytes[0] = 34;
            bytes[1] = weight - 2;
        }
        Bridges.readOf(x, 0, bytes);
        int[] part = new int[partBytes];
        if (partBytes > 0) {
            part[0] = 10;
            part[1] = partBytes - 2;
        }
        Bridges.readOf(x, 1, part);
        return x;
    }

    private static void promise13AllKnownOnesAreRemoved() {
        promise(13, "Sets a PART: all known fields with the tag are removed");
        Schemabridge x = usual();
        Bridges.readOf(x, 0, 42, 1, 9, 34, 0, 42, 0, 8, 1, 42, 2, 1, 1);
        x.create(1);
        due("setPart", x.setPart(0, 5, 1), 0);
        due("the row", row(x), "4 1 5 | 8 1 34 0 42 0");
        Schemabridge sixty = usual();
        Bridges.readOf(sixty, 0, Bridges.pairs(120, 42, 0));
        sixty.create(1);
        due("setPart in the place of sixty", sixty.setPart(0, 5, 1), 0);
        due("the row of sixty", row(sixty), "5 | 42 0");
    }

    private static void promise13UnknownOnesStay() {
        promise(13, "all known fields with the tag are removed");
        Schemabridge x = usual();
        Bridges.readOf(x, 0, 40, 7, 42, 1, 9, 45, 1, 0, 0, 0, 248, 1, 1);
        Bridges.readOf(x, 1, 8, 3);
        due("setPart", x.setPart(0, 5, 1), 2);
        due("the row", row(x), "5 5 31 5 | 40 7 45 1 0 0 0 42 2 8 3 248 1 1");
    }

    private static void promise13CanonicalBytesOfAnother() {
        promise(13, "and a field with the canonical bytes of another message");
        Schemabridge x = usual();
        x.setKind(1, 1, PLAIN, 0);
        x.setKind(1, 2, PLAIN, 0);
        x.setDefault(1, 2, 4);
        x.create(0);
        Bridges.readOf(x, 1, 26, 1, 9, 16, 4, 8, 1, 8, 2, 24, 0);
        due("setPart", x.setPart(0, 5, 1), 7);
        due("in order, without those that tell nothing", Bridges.written(x, 0), "42 7 8 2 26 1 9 24 0");
        due("the weight of the other one after it", x.weight(1), 11);
        x.setDefault(1, 2, 5);
        due("setPart by another default", x.setPart(0, 5, 1), 9);
        x.clear(1, 1);
        due("the part after a change of the other one", Bridges.written(x, 0), "42 9 8 2 16 4 26 1 9 24 0");
        x.discard(1);
        due("the part after the other one is gone", Bridges.written(x, 0), "42 9 8 2 16 4 26 1 9 24 0");
    }

    private static void promise13OfTheSameOne() {
        promise(13, "(or of the same one, as it is ahead of this)");
        Schemabridge x = Bridges.usual(0);
        x.create(0);
        due("setPart of itself without fields", x.setPart(0, 5, 0), 0);
        due("the bytes", Bridges.written(x, 0), "42 0");
        due("setPart of itself with an empty part", x.setPart(0, 5, 0), 2);
        due("the bytes", Bridges.written(x, 0), "42 2 42 0");
        due("setPart of itself with that", x.setPart(0, 5, 0), 4);
        due("the bytes", Bridges.written(x, 0), "42 4 42 2 42 0");
        Schemabridge y = Bridges.usual(0);
        Bridges.readOf(y, 0, 42, 1, 9, 248, 1, 1, 42, 2, 7, 7, 8, 0, 45, 1, 0, 0, 0);
        due("setPart of the canonical ones alone", y.setPart(0, 5, 0), 12);
        due("the row", row(y), "31 1 5 5 | 8 0 45 1 0 0 0 42 12 42 2 7 7 45 1 0 0 0 248 1 1 248 1 1");
    }

    private static void promise13ComesLast() {
        promise(13, "comes last in the row");
        Schemabridge x = usual();
        Bridges.readOf(x, 0, 42, 0, 48, 1, 8, 1);
        x.create(1);
        x.setPart(0, 5, 1);
        due("the row", row(x), "6 1 5 | 8 1 42 0 48 1");
        Schemabridge two = usual();
        Bridges.readOf(two, 0, 42, 0, 8, 1);
        two.create(1);
        two.setPart(0, 5, 1);
        due("the row of two, with the part that was there", row(two), "1 5 | 8 1 42 0");
    }

    private static void promise13HowManyBytes() {
        promise(13, "Returns how many bytes the field has.");
        for (int bytes : new int[] {0, 2, 3, 117, 118}) {
            Schemabridge x = withPart(0, bytes);
            due("setPart", x.setPart(0, 5, 1), bytes);
            due("weight", x.weight(0), bytes + 2);
            due("has", x.has(0, 5), true);
        }
    }

    private static void promise13NoSuchMessage() {
        promise(13, "if there is no such message, or no such other one");
        for (int message : NO_MESSAGES_OF_BUSY) {
            refused(PLACE, "message " + message, BUSY, x -> x.setPart(message, 5, 0));
            refused(PLACE, "other message " + message, BUSY, x -> x.setPart(0, 5, message));
            refused(PLACE, "message " + message + " and no tag", BUSY, x -> x.setPart(message, 0, message));
            refused(PLACE, "other message " + message + " and no tag", BUSY, x -> x.setPart(0, 0, message));
        }
        refused(PLACE, "the number 12 with twelve", FULL, x -> x.setPart(12, 5, 1));
        refused(PLACE, "the other number 12 with twelve", FULL, x -> x.setPart(0, 5, 12));
    }

    private static void promise13NoPart() {
        promise(13, "if the schema of the message has not PART for the tag");
        for (int tag : new int[] {1, 2, 3, 4, 6, 31}) {
            refused(ARGUMENT, "tag " + tag, BUSY, x -> x.setPart(0, tag, 0));
            refused(ARGUMENT, "tag " + tag + ", and above 120", FULL, x -> x.setPart(0, tag, 0));
        }
        for (int tag : NO_TAGS) {
            refused(ARGUMENT, "tag " + tag, BUSY, x -> x.setPart(0, tag, 0));
        }
        refused(ARGUMENT, "a kind that was taken away", () -> {
            Schemabridge x = withPart(0, 0);
            x.dropKind(0, 5);
            return x;
        }, x -> x.setPart(0, 5, 1));
    }

    private static void promise13NotTheSchemaOfThePart() {
        promise(13, "or the schema of the other one is not that of the part");
        refused(ARGUMENT, "itself, of another schema than the part", BUSY, x -> x.setPart(0, 5, 0));
        refused(ARGUMENT, "another one of its own schema", BUSY, x -> x.setPart(0, 5, 2));
        refused(ARGUMENT, "and above 120", FULL, x -> x.setPart(0, 5, 11));
        refused(ARGUMENT, "a schema that was the part's", () -> {
            Schemabridge x = withPart(0, 0);
            x.setKind(0, 5, PART, 0);
            return x;
        }, x -> x.setPart(0, 5, 1));
        refused(ARGUMENT, "a schema with the same kinds", () -> {
            Schemabridge x = Bridges.withSchemas(3);
            x.setKind(0, 1, PART, 1);
            x.create(0);
            x.create(2);
            return x;
        }, x -> x.setPart(0, 1, 1));
        due("the schema of the part", withPart(0, 0).setPart(0, 5, 1), 0);
    }

    private static void promise13Above120() {
        promise(13, "if the weight would be above 120");
        int[][] upTo120 = {{0, 118}, {2, 116}, {100, 18}, {116, 2}, {118, 0}};
        for (int[] each : upTo120) {
            Schemabridge x = withPart(each[0], each[1]);
            due("a part of " + each[1] + " just up to 120", x.setPart(0, 5, 1), each[1]);
            due("weight", x.weight(0), 120);
        }
        int[][] above = {{0, 119}, {0, 120}, {2, 117}, {100, 19}, {117, 2}, {119, 0}, {120, 0}, {120, 120}};
        for (int[] each : above) {
            refused(STATE, "a part of " + each[1] + " with weight " + each[0], () -> withPart(each[0], each[1]), x -> x.setPart(0, 5, 1));
        }
        refused(STATE, "a full one in itself", () -> {
            Schemabridge x = Bridges.usual(0);
            Bridges.readOf(x, 0, Bridges.pairs(120, 48, 0));
            return x;
        }, x -> x.setPart(0, 5, 0));
    }

    private static void promise13WhatIsRemovedMakesRoom() {
        promise(13, "the weight would be");
        Schemabridge x = usual();
        Bridges.readOf(x, 0, Bridges.pairs(120, 42, 0));
        Bridges.readOf(x, 1, Bridges.pairs(118, 8, 0));
        due("a part of 118 in the place of sixty", x.setPart(0, 5, 1), 118);
        due("weight", x.weight(0), 120);
        refused(STATE, "a part beside sixty unknown ones with the tag", () -> {
            Schemabridge y = usual();
            Bridges.readOf(y, 0, Bridges.pairs(120, 40, 0));
            y.create(1);
            return y;
        }, y -> y.setPart(0, 5, 1));
    }

    // ---- Promise 14

    private static void promise14KnownAndUnknownOnes() {
        promise(14, "Removes all fields with a tag, known and unknown ones.");
        Schemabridge x = usual();
        Bridges.readOf(x, 0, 8, 1, 16, 1, 13, 7, 0, 0, 0, 10, 1, 5, 248, 1, 1, 8, 2);
        due("clear", x.clear(0, 1), 4);
        due("the row", row(x), "2 31 | 16 1 248 1 1");
        for (int tag = 1; tag <= 31; tag++) {
            Schemabridge all = Bridges.withSchemas(1);
            StringBuilder left = new StringBuilder();
            for (int each = 1; each <= 31; each++) {
                all.setKind(0, each, PLAIN, 0);
            }
            all.create(0);
            for (int each = 1; each <= 31; each++) {
                all.set(0, each, each);
                left.append(each == tag ? "" : " " + each);
            }
            due("clear tag " + tag, all.clear(0, tag), 1);
            for (int each = 1; each <= 31; each++) {
                all.dropKind(0, each);
            }
            due("the tags that are left", Bridges.unknownTags(all, 0), left.toString());
        }
    }

    private static void promise14HowMany() {
        promise(14, "Returns how many these are.");
        Schemabridge x = usual();
        due("of no fields", x.clear(x.create(0), 1), 0);
        int one = Bridges.readOf(x, 0, 248, 1, 0);
        due("of none with the tag", x.clear(one, 30), 0);
        due("weight then", x.weight(one), 3);
        due("of one with the last tag", x.clear(one, 31), 1);
        due("of none any more", x.clear(one, 31), 0);
        int sixty = Bridges.readOf(x, 0, Bridges.pairs(120, 8, 0));
        due("of sixty", x.clear(sixty, 1), 60);
        due("weight then", x.weight(sixty), 0);
    }

    private static void promise14NoSuchMessage() {
        promise(14, "if there is no such message");
        for (int message : NO_MESSAGES_OF_BUSY) {
            refused(PLACE, "message " + message, BUSY, x -> x.clear(message, 1));
            refused(PLACE, "message " + message + " and no tag", BUSY, x -> x.clear(message, 0));
        }
        refused(PLACE, "the number 12 with twelve", FULL, x -> x.clear(12, 1));
    }

    private static void promise14NoSuchTag() {
        promise(14, "if tag is not 1 to 31");
        due("the first tag", Bridges.busy().clear(0, 1), 4);
        due("the last tag", Bridges.busy().clear(0, 31), 1);
        for (int tag : NO_TAGS) {
            refused(ARGUMENT, "tag " + tag, BUSY, x -> x.clear(0, tag));
        }
    }
}
