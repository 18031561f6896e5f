/** Promises 25 to 33: the tape. */
final class TapeTest {
    private static final int LEAST = Integer.MIN_VALUE, GREATEST = Integer.MAX_VALUE;
    private static final Checks CHECKS = new Checks("TapeTest");

    public static void main(String[] args) {
        promise25Write();
        promise25WriteOrdersByTags();
        promise25WriteLeavesOutWhatTellsNothing();
        promise26Put();
        promise27Cut();
        promises28And29Bytes();
        promises30And31FaultsOfKeys();
        promises30And31FaultsOfValues();
        promises30And31FaultsBehindOthers();
        promise32Read();
        promise32ReadThrows();
        promise33IsCanonical();
        promise33IsCanonicalOfAFullTape();
        CHECKS.end();
    }

    private static Schemabridge usual() {
        return Bridges.usual(0);
    }

    private static void promise25Write() {
        Schemabridge x = usual();
        x.create(0);
        x.put((byte) 9);
        CHECKS.due("write without fields", x.write(0), 0);
        CHECKS.due("length", x.length(), 0);
        x.set(0, 1, 300);
        x.set(0, 3, -2);
        CHECKS.due("write", x.write(0), 8);
        CHECKS.due("the tape", Bridges.told(x), "8 172 2 29 254 255 255 255");
        CHECKS.due("write again", x.write(0), 8);
        x.set(0, 1, 5);
        CHECKS.due("the tape after a change", Bridges.told(x), "8 172 2 29 254 255 255 255");
        CHECKS.due("the message after a write", x.weight(0), 7);
        for (int message : new int[] {-1, 1, 12, LEAST, GREATEST}) {
            CHECKS.thrown("write of message " + message, Checks.PLACE, () -> x.write(message));
        }
        CHECKS.due("the tape after that", x.length(), 8);
        for (int bytes = 0; bytes < 111; bytes++) {
            x.append(0, 4, (byte) 1);
        }
        CHECKS.due("write of a full message", x.write(0), 120);
    }

    private static void promise25WriteOrdersByTags() {
        Schemabridge x = usual();
        int read = Bridges.readOf(x, 0, 248, 1, 1, 50, 1, 9, 48, 2, 34, 0, 53, 1, 0, 0, 0, 48, 1, 240, 1, 5, 8, 1, 10, 0);
        CHECKS.due("the tape", Bridges.written(x, read), "8 1 10 0 34 0 50 1 9 48 2 53 1 0 0 0 48 1 240 1 5 248 1 1");
        CHECKS.due("the tape by no kinds", Bridges.written(x, x.copy(read, 1)),
            "8 1 10 0 34 0 50 1 9 48 2 53 1 0 0 0 48 1 240 1 5 248 1 1");
        x.setKind(0, 6, Schemabridge.PLAIN, 0);
        x.setKind(0, 31, Schemabridge.SIGNED, 0);
        CHECKS.due("the tape by two kinds more", Bridges.written(x, read), "8 1 10 0 34 0 50 1 9 53 1 0 0 0 48 1 240 1 5 248 1 1");
        x.setDefault(0, 31, -1);
        CHECKS.due("the tape by a default of the last tag", Bridges.written(x, read), "8 1 10 0 34 0 50 1 9 53 1 0 0 0 48 1 240 1 5");
    }

    private static void promise25WriteLeavesOutWhatTellsNothing() {
        Schemabridge x = usual();
        int read = Bridges.readOf(x, 0, 8, 3, 10, 1, 4, 8, 0, 16, 0, 16, 9, 29, 0, 0, 0, 0, 34, 2, 1, 1, 34, 0, 42, 0);
        CHECKS.due("the tape", Bridges.written(x, read), "10 1 4 16 9 34 0 42 0");
        x.setDefault(0, 1, 3);
        x.setDefault(0, 2, -5);
        x.setDefault(0, 3, 1);
        CHECKS.due("the tape by other defaults", Bridges.written(x, read), "10 1 4 8 0 29 0 0 0 0 34 0 42 0");
        x.dropKind(0, 1);
        CHECKS.due("the tape by fewer kinds", Bridges.written(x, read), "8 3 10 1 4 8 0 29 0 0 0 0 34 0 42 0");
        x.setKind(0, 1, Schemabridge.SIGNED, 0);
        x.setDefault(0, 1, LEAST);
        x.set(read, 1, LEAST);
        CHECKS.due("the tape by a large default", Bridges.written(x, read), "10 1 4 29 0 0 0 0 34 0 42 0");
        CHECKS.due("get", x.get(read, 1), LEAST);
    }

    private static void promise26Put() {
        Schemabridge x = usual();
        for (int bytes = 1; bytes <= 120; bytes++) {
            CHECKS.due("put", x.put((byte) (bytes * 2)), bytes);
        }
        CHECKS.thrown("put above 120", Checks.STATE, () -> x.put((byte) 1));
        CHECKS.due("length", x.length(), 120);
        for (int place = 0; place < 120; place++) {
            CHECKS.due("byteAt", x.byteAt(place), (byte) (place * 2 + 2));
        }
        x.cut(119);
        CHECKS.due("put after a cut", x.put((byte) -7), 120);
        CHECKS.due("byteAt(119)", x.byteAt(119), (byte) -7);
    }

    private static void promise27Cut() {
        Schemabridge x = usual();
        Bridges.lay(x, 1, 2, 3, 4, 5);
        CHECKS.due("cut to the same length", x.cut(5), 0);
        CHECKS.due("cut", x.cut(3), 2);
        CHECKS.due("the tape", Bridges.told(x), "1 2 3");
        for (int length : new int[] {-1, 4, 5, 121, LEAST, GREATEST}) {
            CHECKS.thrown("cut to " + length, Checks.PLACE, () -> x.cut(length));
        }
        CHECKS.due("length", x.length(), 3);
        CHECKS.due("cut to 0", x.cut(0), 3);
        CHECKS.due("cut of nothing", x.cut(0), 0);
        CHECKS.thrown("cut to 1 of nothing", Checks.PLACE, () -> x.cut(1));
    }

    private static void promises28And29Bytes() {
        Schemabridge x = usual();
        CHECKS.due("length", x.length(), 0);
        CHECKS.thrown("byteAt(0) of nothing", Checks.PLACE, () -> x.byteAt(0));
        Bridges.lay(x, 255, 128, 127);
        CHECKS.due("length", x.length(), 3);
        CHECKS.due("byteAt(0)", x.byteAt(0), (byte) -1);
        CHECKS.due("byteAt(1)", x.byteAt(1), (byte) -128);
        CHECKS.due("byteAt(2)", x.byteAt(2), (byte) 127);
        x.cut(2);
        for (int place : new int[] {-1, 2, 3, 120, LEAST, GREATEST}) {
            CHECKS.thrown("byteAt " + place, Checks.PLACE, () -> x.byteAt(place));
        }
        CHECKS.due("length", x.length(), 2);
    }

    private static void fault(int want, int wantAt, int... bytes) {
        Schemabridge x = new Schemabridge();
        x.addSchema();
        Bridges.lay(x, bytes);
        String what = " of " + Bridges.told(x);
        x.create(0);
        CHECKS.due("fault()" + what, x.fault(), want);
        CHECKS.due("unknowns(0)", x.unknowns(0), 0);
        CHECKS.due("faultAt()" + what, x.faultAt(), wantAt);
        Object read = Checks.thrownBy(() -> x.read(0));
        CHECKS.due("read(0)" + what, read, want == 0 ? "no exception but 1" : "IllegalArgumentException");
        if (want != 0) {
            CHECKS.due("isCanonical(0)" + what, x.isCanonical(0), false);
        }
    }

    private static void promises30And31FaultsOfKeys() {
        fault(0, -1);
        fault(1, 0, 128);
        fault(1, 0, 136, 128);
        fault(1, 0, 136, 128, 128, 128);
        fault(2, 0, 136, 128, 128, 128, 16);
        fault(2, 0, 136, 128, 128, 128, 128);
        fault(2, 0, 136, 128, 128, 128, 255, 0, 0);
        fault(0, -1, 136, 128, 128, 128, 0, 5);
        fault(3, 0, 136, 128, 128, 128, 1, 5);
        fault(3, 0, 255, 255, 255, 255, 15);
        fault(3, 0, 0);
        fault(3, 0, 0, 0);
        fault(3, 0, 7);
        fault(3, 0, 128, 2);
        fault(3, 0, 129, 2, 1);
        fault(3, 0, 129, 128, 128, 128, 8);
        fault(0, -1, 248, 1, 1);
        fault(0, -1, 250, 1, 0);
        fault(0, -1, 253, 1, 0, 0, 0, 0);
        for (int type : new int[] {1, 3, 4, 6, 7}) {
            fault(4, 0, 8 + type);
            fault(4, 0, 8 + type, 0, 0, 0, 0, 0);
            fault(4, 0, 248 + type, 1);
            fault(3, 0, type, 1);
        }
    }

    private static void promises30And31FaultsOfValues() {
        fault(1, 0, 8);
        fault(1, 0, 8, 128);
        fault(1, 0, 8, 255, 255, 255, 255);
        fault(2, 0, 8, 255, 255, 255, 255, 16);
        fault(2, 0, 8, 128, 128, 128, 128, 143, 0);
        fault(0, -1, 8, 255, 255, 255, 255, 15);
        fault(0, -1, 8, 128, 128, 128, 128, 0);
        fault(1, 0, 10);
        fault(1, 0, 10, 128);
        fault(1, 0, 10, 1);
        fault(1, 0, 10, 3, 1, 1);
        fault(0, -1, 10, 3, 1, 1, 1);
        fault(0, -1, 10, 129, 128, 128, 128, 0, 1);
        fault(1, 0, 10, 255, 255, 255, 255, 15, 1, 1, 1);
        fault(1, 0, 10, 255, 255, 255, 255, 7, 1, 1, 1);
        fault(1, 0, 10, 128, 128, 128, 128, 8, 1, 1, 1);
        fault(2, 0, 10, 255, 255, 255, 255, 16, 1, 1, 1);
        fault(1, 0, 13);
        fault(1, 0, 13, 1, 2, 3);
        fault(0, -1, 13, 255, 255, 255, 255);
    }

    private static void promises30And31FaultsBehindOthers() {
        fault(1, 2, 8, 1, 8);
        fault(4, 7, 8, 1, 13, 1, 1, 1, 1, 9, 0);
        fault(3, 3, 10, 1, 8, 3, 9);
        fault(2, 5, 10, 3, 0, 0, 0, 8, 128, 128, 128, 128, 99);
        fault(1, 5, 10, 3, 0, 0, 0, 10, 1);
        fault(4, 0, 9, 0, 0);
        int[] full = new int[120];
        for (int place = 0; place < 120; place += 2) {
            full[place] = 8;
        }
        fault(0, -1, full);
        full[118] = 9;
        fault(4, 118, full);
        full[118] = 1;
        fault(3, 118, full);
        full[118] = 8;
        full[119] = 128;
        fault(1, 118, full);
        int[] bytes = new int[120];
        bytes[0] = 10;
        bytes[1] = 118;
        fault(0, -1, bytes);
        bytes[1] = 119;
        fault(1, 0, bytes);
        bytes[1] = 117;
        bytes[119] = 8;
        fault(1, 119, bytes);
        Schemabridge x = usual();
        Bridges.lay(x, 8, 1, 9);
        CHECKS.due("faultAt()", x.faultAt(), 2);
        x.cut(0);
        CHECKS.due("faultAt() of nothing after that", x.faultAt(), Schemabridge.NONE);
    }

    private static void promise32Read() {
        Schemabridge x = usual();
        CHECKS.due("read of nothing", x.read(0), 0);
        CHECKS.due("weight", x.weight(0), 0);
        Bridges.lay(x, 29, 1, 0, 0, 128, 8, 130, 0, 34, 130, 0, 7, 8, 240, 1, 3);
        CHECKS.due("read", x.read(0), 1);
        CHECKS.due("read by another schema", x.read(1), 2);
        CHECKS.due("the tape after a read", x.length(), 16);
        CHECKS.due("schemaOf(2)", x.schemaOf(2), 1);
        CHECKS.due("get of PLAIN", x.get(1, 1), 2);
        CHECKS.due("get of FOUR", x.get(1, 3), 0x80000001);
        CHECKS.due("byteOf", x.byteOf(1, 4, 1), (byte) 8);
        CHECKS.due("weight", x.weight(1), 14);
        CHECKS.due("unknowns", x.unknowns(2), 4);
        int[] tags = {3, 1, 4, 30};
        for (int place = 0; place < 4; place++) {
            CHECKS.due("unknownTag in the order of the tape", x.unknownTag(2, place), tags[place]);
        }
        x.cut(0);
        CHECKS.due("weight after a cut", x.weight(1), 14);
        int number = Bridges.readOf(x, 1, 8, 128, 128, 128, 128, 15);
        x.setKind(1, 1, Schemabridge.PLAIN, 0);
        CHECKS.due("get of 15 groups up", x.get(number, 1), 15 << 28);
    }

    private static void promise32ReadThrows() {
        Schemabridge x = usual();
        Bridges.lay(x, 8);
        for (int schema : new int[] {-1, 2, 6, LEAST, GREATEST}) {
            CHECKS.thrown("read by schema " + schema, Checks.PLACE, () -> x.read(schema));
        }
        CHECKS.thrown("read with a fault", Checks.ARGUMENT, () -> x.read(0));
        x.put((byte) 1);
        for (int number = 0; number < 12; number++) {
            CHECKS.due("read", x.read(0), number);
        }
        CHECKS.thrown("read of a thirteenth", Checks.STATE, () -> x.read(0));
        x.put((byte) 1);
        CHECKS.thrown("read of a thirteenth with a fault", Checks.ARGUMENT, () -> x.read(0));
        CHECKS.thrown("read of a thirteenth without a schema", Checks.PLACE, () -> x.read(2));
        CHECKS.due("the tape after that", Bridges.told(x), "8 1 1");
        x.cut(2);
        x.discard(4);
        CHECKS.due("read in the free number", x.read(1), 4);
    }

    private static void canonical(boolean want, boolean wantByNone, int... bytes) {
        Schemabridge x = usual();
        Bridges.lay(x, bytes);
        String what = " of " + Bridges.told(x);
        CHECKS.due("isCanonical(0)" + what, x.isCanonical(0), want);
        CHECKS.due("isCanonical(1)" + what, x.isCanonical(1), wantByNone);
        CHECKS.due("the tape after that" + what, x.length(), bytes.length);
    }

    private static void promise33IsCanonical() {
        canonical(true, true);
        canonical(true, true, 8, 1, 16, 2, 34, 0);
        canonical(false, false, 16, 2, 8, 1);
        canonical(false, true, 8, 1, 8, 2);
        canonical(false, true, 8, 0);
        canonical(false, true, 29, 0, 0, 0, 0);
        canonical(true, true, 10, 0, 13, 0, 0, 0, 0, 8, 1);
        canonical(true, true, 48, 2, 48, 1, 48, 0);
        canonical(false, true, 34, 0, 34, 1, 1);
        canonical(false, false, 8, 129, 0);
        canonical(false, false, 136, 0, 1);
        canonical(false, false, 34, 129, 0, 1);
        canonical(false, false, 8);
        canonical(false, false, 8, 1, 9);
        canonical(true, true, 34, 2, 8, 129);
        Schemabridge x = usual();
        for (int schema : new int[] {-1, 2, 6, LEAST, GREATEST}) {
            CHECKS.thrown("isCanonical by schema " + schema, Checks.PLACE, () -> x.isCanonical(schema));
        }
        for (int number = 0; number < 12; number++) {
            x.create(0);
        }
        Bridges.lay(x, 8, 1);
        CHECKS.due("isCanonical with 12 messages", x.isCanonical(0), true);
        x.setDefault(0, 1, 1);
        CHECKS.due("isCanonical by another default", x.isCanonical(0), false);
        x.put((byte) 8);
        CHECKS.due("isCanonical with a fault", x.isCanonical(1), false);
        x.cut(2);
        CHECKS.due("weight(0) in between", x.discard(0), 0);
        CHECKS.due("isCanonical without the fault", x.isCanonical(1), true);
        CHECKS.due("the messages after that", x.weight(11), 0);
    }

    private static void promise33IsCanonicalOfAFullTape() {
        int[] full = new int[120];
        for (int place = 0; place < 120; place += 2) {
            full[place] = 48;
            full[place + 1] = place;
        }
        canonical(true, true, full);
        full[118] = 40;
        canonical(false, false, full);
        full[0] = 40;
        full[118] = 48;
        canonical(true, true, full);
    }
}
