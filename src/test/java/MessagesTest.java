/** Promises 8 to 14: messages and their changes. */
final class MessagesTest {
    private static final int LEAST = Integer.MIN_VALUE, GREATEST = Integer.MAX_VALUE;
    private static final Checks CHECKS = new Checks("MessagesTest");

    public static void main(String[] args) {
        promise8Create();
        promise9Copy();
        promise10Discard();
        promise11Set();
        promise11SetRemovesTheKnownAlone();
        promise11SetThrows();
        promise12Append();
        promise12AppendThrows();
        promise13SetPart();
        promise13SetPartOfItself();
        promise13SetPartThrows();
        promise14Clear();
        CHECKS.end();
    }

    private static Schemabridge usual() {
        return Bridges.usual(0);
    }

    private static void promise8Create() {
        Schemabridge x = usual();
        for (int schema : new int[] {-1, 2, 6, LEAST, GREATEST}) {
            CHECKS.thrown("create of schema " + schema, Checks.PLACE, () -> x.create(schema));
        }
        for (int number = 0; number < 12; number++) {
            CHECKS.due("create", x.create(number % 2), number);
            CHECKS.due("schemaOf", x.schemaOf(number), number % 2);
            CHECKS.due("weight", x.weight(number), 0);
        }
        CHECKS.thrown("create of a thirteenth", Checks.STATE, () -> x.create(0));
        CHECKS.thrown("create of a thirteenth without a schema", Checks.PLACE, () -> x.create(2));
        x.discard(7);
        x.discard(3);
        CHECKS.due("create in the least free number", x.create(1), 3);
        CHECKS.due("create in the other free number", x.create(1), 7);
        x.discard(0);
        CHECKS.due("create in number 0", x.create(1), 0);
    }

    private static void promise9Copy() {
        Schemabridge x = usual();
        int read = Bridges.readOf(x, 0, 8, 1, 34, 1, 7, 8, 2, 13, 9, 0, 0, 0, 248, 1, 3);
        CHECKS.due("copy", x.copy(read, 1), 1);
        CHECKS.due("schemaOf", x.schemaOf(1), 1);
        CHECKS.due("the copied row", Bridges.written(x, 1), "8 1 8 2 13 9 0 0 0 34 1 7 248 1 3");
        CHECKS.due("weight", x.weight(1), x.weight(0));
        x.set(0, 1, 77);
        CHECKS.due("unknowns of the copy after a change", x.unknowns(1), 5);
        CHECKS.due("copy to the same schema", x.copy(0, 0), 2);
        CHECKS.due("get of that copy", x.get(2, 1), 77);
        x.set(2, 1, 78);
        CHECKS.due("get of the copied one", x.get(0, 1), 77);
        for (int wrong : new int[] {-1, 3, 12, LEAST, GREATEST}) {
            CHECKS.thrown("copy of message " + wrong, Checks.PLACE, () -> x.copy(wrong, 0));
            CHECKS.thrown("copy with schema " + wrong, Checks.PLACE, () -> x.copy(0, wrong));
        }
        for (int made = 3; made < 12; made++) {
            CHECKS.due("copy", x.copy(0, 1), made);
        }
        CHECKS.thrown("copy of a thirteenth", Checks.STATE, () -> x.copy(0, 0));
        CHECKS.thrown("copy of a thirteenth without a schema", Checks.PLACE, () -> x.copy(0, 2));
    }

    private static void promise10Discard() {
        Schemabridge x = usual();
        x.create(0);
        CHECKS.due("discard without fields", x.discard(0), 0);
        CHECKS.thrown("discard again", Checks.PLACE, () -> x.discard(0));
        CHECKS.thrown("weight after discard", Checks.PLACE, () -> x.weight(0));
        int read = Bridges.readOf(x, 0, 8, 1, 8, 2, 13, 0, 0, 0, 0, 34, 0);
        CHECKS.due("discard", x.discard(read), 4);
        int[] sixty = new int[120];
        for (int place = 0; place < 120; place += 2) {
            sixty[place] = place % 4 == 0 ? 8 : 34;
        }
        CHECKS.due("discard of sixty fields", x.discard(Bridges.readOf(x, 0, sixty)), 60);
        x.create(0);
        CHECKS.due("a new message in its place", x.weight(0), 0);
        for (int message : new int[] {-1, 1, 12, LEAST, GREATEST}) {
            CHECKS.thrown("discard of " + message, Checks.PLACE, () -> x.discard(message));
        }
    }

    private static void promise11Set() {
        Schemabridge x = usual();
        x.create(0);
        for (int value : new int[] {0, 1, -1, 63, 64, 127, 128, 300, -300, 1 << 28, LEAST, GREATEST}) {
            for (int tag = 1; tag <= 3; tag++) {
                x.set(0, tag, value);
                CHECKS.due("get after set", x.get(0, tag), value);
            }
        }
        x.clear(0, 1);
        x.clear(0, 2);
        x.clear(0, 3);
        x.set(0, 3, 0x01020384);
        x.set(0, 2, LEAST);
        x.set(0, 1, -1);
        CHECKS.due("the canonical bytes", Bridges.written(x, 0), "8 255 255 255 255 15 16 255 255 255 255 15 29 132 3 2 1");
        x.set(0, 2, GREATEST);
        CHECKS.due("the canonical bytes", Bridges.written(x, 0), "8 255 255 255 255 15 16 254 255 255 255 15 29 132 3 2 1");
        x.set(0, 1, 0);
        CHECKS.due("has the default", x.has(0, 1), true);
        CHECKS.due("weight with the default", x.weight(0), 13);
    }

    private static void promise11SetRemovesTheKnownAlone() {
        Schemabridge x = usual();
        int read = Bridges.readOf(x, 0, 8, 1, 13, 9, 0, 0, 0, 8, 2, 16, 2, 10, 1, 5);
        x.set(read, 1, 3);
        x.copy(read, 1);
        CHECKS.due("the row after set", Bridges.written(x, 1), "13 9 0 0 0 10 1 5 8 3 16 2");
        CHECKS.due("discard", x.discard(1), 4);
        CHECKS.due("unknowns", x.unknowns(read), 2);
        x.setKind(0, 1, Schemabridge.FOUR, 0);
        x.set(read, 1, 4);
        CHECKS.due("get", x.get(read, 1), 4);
        CHECKS.due("unknown fields with the tag", x.unknowns(read), 2);
        x.copy(read, 1);
        CHECKS.due("the row after set", Bridges.written(x, 1), "10 1 5 8 3 13 4 0 0 0 16 2");
    }

    private static void promise11SetThrows() {
        Schemabridge x = usual();
        x.create(0);
        for (int message : new int[] {-1, 1, 12, LEAST, GREATEST}) {
            CHECKS.thrown("set of message " + message, Checks.PLACE, () -> x.set(message, 0, 1));
        }
        for (int tag : new int[] {0, 4, 5, 6, 31, 32, -1, LEAST, GREATEST}) {
            CHECKS.thrown("set of tag " + tag, Checks.ARGUMENT, () -> x.set(0, tag, 1));
        }
        for (int bytes = 1; bytes <= 116; bytes++) {
            x.append(0, 4, (byte) bytes);
        }
        x.set(0, 1, 127);
        CHECKS.due("weight", x.weight(0), 120);
        x.set(0, 1, 126);
        CHECKS.thrown("set above 120", Checks.STATE, () -> x.set(0, 1, 128));
        CHECKS.thrown("set above 120 of another tag", Checks.STATE, () -> x.set(0, 2, 0));
        CHECKS.thrown("set above 120 of a wrong tag", Checks.ARGUMENT, () -> x.set(0, 4, 0));
        CHECKS.due("get after that", x.get(0, 1), 126);
        CHECKS.due("weight after that", x.weight(0), 120);
        x.clear(0, 1);
        x.set(0, 2, 63);
        CHECKS.due("weight with another", x.weight(0), 120);
        CHECKS.thrown("set of FOUR above 120", Checks.STATE, () -> x.set(0, 3, 0));
        CHECKS.due("has", x.has(0, 3), false);
    }

    private static void promise12Append() {
        Schemabridge x = usual();
        x.create(0);
        CHECKS.due("append", x.append(0, 4, (byte) 65), 1);
        x.set(0, 1, 1);
        CHECKS.due("append", x.append(0, 4, (byte) -1), 2);
        CHECKS.due("append", x.append(0, 5, (byte) 8), 1);
        x.copy(0, 1);
        CHECKS.due("the row", Bridges.written(x, 1), "8 1 34 2 65 255 42 1 8");
        int read = Bridges.readOf(x, 0, 34, 2, 1, 2, 32, 9, 34, 1, 3, 37, 1, 1, 1, 1);
        CHECKS.due("append to the last one", x.append(read, 4, (byte) 4), 2);
        x.copy(read, 1);
        CHECKS.due("the row with unknown ones", Bridges.written(x, 3), "32 9 37 1 1 1 1 34 2 3 4");
        int empty = Bridges.readOf(x, 0, 34, 0);
        CHECKS.due("append to an empty one", x.append(empty, 4, (byte) 4), 1);
        CHECKS.due("weight", x.weight(empty), 3);
    }

    private static void promise12AppendThrows() {
        Schemabridge x = usual();
        x.create(0);
        for (int message : new int[] {-1, 1, 12, LEAST, GREATEST}) {
            CHECKS.thrown("append to message " + message, Checks.PLACE, () -> x.append(message, 0, (byte) 1));
        }
        for (int tag : new int[] {0, 1, 2, 3, 6, 32, -1, LEAST, GREATEST}) {
            CHECKS.thrown("append to tag " + tag, Checks.ARGUMENT, () -> x.append(0, tag, (byte) 1));
        }
        for (int bytes = 1; bytes <= 118; bytes++) {
            CHECKS.due("append", x.append(0, 4, (byte) bytes), bytes);
        }
        CHECKS.thrown("append above 120", Checks.STATE, () -> x.append(0, 4, (byte) 1));
        CHECKS.thrown("append above 120 of a wrong tag", Checks.ARGUMENT, () -> x.append(0, 1, (byte) 1));
        CHECKS.thrown("append above 120 of another tag", Checks.STATE, () -> x.append(0, 5, (byte) 1));
        CHECKS.due("weight", x.weight(0), 120);
        CHECKS.due("the last byte", x.byteOf(0, 4, 117), (byte) 118);
        CHECKS.thrown("a byte behind it", Checks.ABSENT, () -> x.byteOf(0, 4, 118));
        // Fields that fall away make room: of 119 bytes in two fields, only the last one's stay.
        int[] two = new int[119];
        two[0] = 34;
        two[1] = 114;
        two[116] = 34;
        two[117] = 1;
        two[118] = 7;
        int read = Bridges.readOf(x, 0, two);
        CHECKS.due("append that makes room", x.append(read, 4, (byte) 8), 2);
        CHECKS.due("weight", x.weight(read), 4);
    }

    private static void promise13SetPart() {
        Schemabridge x = usual();
        x.addSchema();
        x.setKind(0, 16, Schemabridge.PART, 2);
        x.setKind(2, 1, Schemabridge.PLAIN, 0);
        x.setKind(2, 2, Schemabridge.TEXT, 0);
        x.create(0);
        int inner = Bridges.readOf(x, 2, 18, 1, 7, 8, 1, 8, 5, 24, 3, 18, 1, 6);
        CHECKS.due("setPart", x.setPart(0, 16, inner), 7);
        CHECKS.due("the row", Bridges.written(x, 0), "130 1 7 8 5 18 1 6 24 3");
        x.set(inner, 1, 0);
        x.set(0, 1, 3);
        CHECKS.due("setPart without the default", x.setPart(0, 16, inner), 5);
        x.copy(0, 1);
        CHECKS.due("the row", Bridges.written(x, 2), "8 3 130 1 5 18 1 6 24 3");
        x.setDefault(2, 1, 9);
        CHECKS.due("setPart by the schema as it is now", x.setPart(0, 16, inner), 7);
        x.create(2);
        CHECKS.due("setPart of an empty one", x.setPart(0, 16, 3), 0);
        CHECKS.due("has", x.has(0, 16), true);
        CHECKS.due("the row", Bridges.written(x, 0), "8 3 130 1 0");
        int read = Bridges.readOf(x, 0, 130, 1, 1, 8, 128, 1, 4, 130, 1, 0);
        CHECKS.due("setPart among others", x.setPart(read, 16, 3), 0);
        CHECKS.due("unknowns", x.unknowns(read), 1);
        CHECKS.due("weight", x.weight(read), 6);
    }

    private static void promise13SetPartOfItself() {
        Schemabridge x = usual();
        x.create(0);
        x.set(0, 1, 2);
        CHECKS.due("setPart of itself", x.setPart(0, 5, 0), 2);
        CHECKS.due("the row", Bridges.written(x, 0), "8 2 42 2 8 2");
        CHECKS.due("setPart of itself again", x.setPart(0, 5, 0), 6);
        CHECKS.due("the row", Bridges.written(x, 0), "8 2 42 6 8 2 42 2 8 2");
        x.clear(0, 5);
        for (int bytes = 1; bytes <= 54; bytes++) {
            x.append(0, 4, (byte) bytes);
        }
        CHECKS.due("setPart up to weight 118", x.setPart(0, 5, 0), 58);
        CHECKS.due("weight", x.weight(0), 118);
        x.set(0, 2, 0);
        CHECKS.thrown("setPart above 120", Checks.STATE, () -> x.setPart(0, 5, 0));
        CHECKS.due("weight after that", x.weight(0), 120);
        CHECKS.due("a byte after that", x.byteOf(0, 5, 57), (byte) 54);
    }

    private static void promise13SetPartThrows() {
        Schemabridge x = usual();
        x.create(0);
        x.create(1);
        for (int message : new int[] {-1, 2, 12, LEAST, GREATEST}) {
            CHECKS.thrown("setPart of message " + message, Checks.PLACE, () -> x.setPart(message, 0, 0));
            CHECKS.thrown("setPart with message " + message, Checks.PLACE, () -> x.setPart(0, 0, message));
        }
        for (int tag : new int[] {0, 1, 2, 3, 4, 6, 32, -1, LEAST, GREATEST}) {
            CHECKS.thrown("setPart of tag " + tag, Checks.ARGUMENT, () -> x.setPart(0, tag, 0));
        }
        CHECKS.thrown("setPart with a message of another schema", Checks.ARGUMENT, () -> x.setPart(0, 5, 1));
        CHECKS.thrown("setPart by a schema without kinds", Checks.ARGUMENT, () -> x.setPart(1, 5, 0));
        int full = x.create(0);
        for (int bytes = 1; bytes <= 118; bytes++) {
            x.append(full, 4, (byte) 1);
        }
        CHECKS.thrown("setPart above 120", Checks.STATE, () -> x.setPart(0, 5, full));
        CHECKS.thrown("setPart of a full one in itself", Checks.STATE, () -> x.setPart(full, 5, full));
        CHECKS.thrown("setPart above 120 with a wrong tag", Checks.ARGUMENT, () -> x.setPart(0, 4, full));
        CHECKS.due("weight after that", x.weight(0), 0);
        CHECKS.due("has after that", x.has(0, 5), false);
    }

    private static void promise14Clear() {
        Schemabridge x = usual();
        int read = Bridges.readOf(x, 0, 8, 1, 13, 9, 0, 0, 0, 8, 2, 16, 2, 10, 1, 5, 248, 1, 1);
        CHECKS.due("clear of a tag without fields", x.clear(read, 3), 0);
        CHECKS.due("clear of known and unknown ones", x.clear(read, 1), 4);
        CHECKS.due("weight", x.weight(read), 5);
        CHECKS.due("clear again", x.clear(read, 1), 0);
        CHECKS.due("clear of an unknown one", x.clear(read, 31), 1);
        CHECKS.due("what is left", Bridges.written(x, read), "16 2");
        for (int message : new int[] {-1, 1, 12, LEAST, GREATEST}) {
            CHECKS.thrown("clear of message " + message, Checks.PLACE, () -> x.clear(message, 0));
        }
        for (int tag : new int[] {0, 32, -1, LEAST, GREATEST}) {
            CHECKS.thrown("clear of tag " + tag, Checks.ARGUMENT, () -> x.clear(read, tag));
        }
        CHECKS.due("weight after that", x.weight(read), 2);
    }
}
