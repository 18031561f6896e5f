import java.util.Arrays;
import java.util.function.Supplier;

/** The edges that promises 25 to 33 name: the tape. */
final class TapeEdges extends Edges {
    private static Schemabridge usual() {
        return Bridges.usual(1);
    }

    private static Schemabridge laid(int... bytes) {
        Schemabridge x = usual();
        Bridges.lay(x, bytes);
        return x;
    }

    // ---- Promise 25

    private static void promise25CanonicalBytes() {
        promise(25, "Writes the canonical bytes of a message on the tape");
        Schemabridge x = usual();
        Bridges.readOf(x, 0, 248, 1, 1, 34, 1, 9, 8, 3, 16, 0, 10, 0, 8, 133, 0, 34, 0);
        due("write", x.write(0), 9);
        due("the tape", Bridges.told(x), "10 0 8 5 34 0 248 1 1");
        due("the weight of the message after it", x.weight(0), 16);
        due("write again", x.write(0), 9);
        x.copy(0, 1);
        due("write of all fields", x.write(1), 16);
        due("the tape with all fields", Bridges.told(x), "8 3 10 0 8 5 16 0 34 1 9 34 0 248 1 1");
    }

    private static void promise25InPlaceOfWhatIsOnIt() {
        promise(25, "in place of what is on it");
        Schemabridge x = Bridges.full();
        due("write of no bytes on a full tape", x.write(1), 0);
        due("the tape", x.length(), 0);
        x.discard(2);
        x.setKind(1, 1, PLAIN, 0);
        x.set(1, 1, 1);
        x.set(3, 1, 300);
        due("write", x.write(3), 3);
        due("write of fewer bytes", x.write(1), 2);
        due("the tape", Bridges.told(x), "8 1");
        due("write of more bytes", x.write(3), 3);
        due("the tape", Bridges.told(x), "8 172 2");
        x.set(3, 1, 5);
        due("the tape after a change of the message", Bridges.told(x), "8 172 2");
    }

    private static void promise25HowMany() {
        promise(25, "Returns how many bytes the tape has then.");
        Schemabridge x = Bridges.full();
        due("of a full message", x.write(0), 120);
        due("length", x.length(), 120);
        due("of none", x.write(5), 0);
        due("length", x.length(), 0);
        x.setDefault(0, 1, 1);
        due("of one without its default", x.write(0), 118);
        due("length", x.length(), 118);
        Schemabridge sixty = usual();
        due("of sixty known ones, of which one is left", sixty.write(Bridges.readOf(sixty, 0, Bridges.pairs(120, 8, 7))), 2);
        due("of sixty unknown ones", sixty.write(Bridges.readOf(sixty, 1, Bridges.pairs(120, 8, 7))), 120);
    }

    private static void promise25NoSuchMessage() {
        promise(25, "if there is no such message");
        for (int message : NO_MESSAGES_OF_BUSY) {
            refused(PLACE, "message " + message, BUSY, x -> x.write(message));
        }
        refused(PLACE, "the number 12 with twelve", FULL, x -> x.write(12));
    }

    // ---- Promise 26

    private static void promise26BehindTheLastOne() {
        promise(26, "Puts a byte behind the last one of the tape.");
        for (int first = -128; first < 128; first += 64) {
            Schemabridge x = new Schemabridge();
            for (int value = first; value < first + 64; value++) {
                x.put((byte) value);
            }
            for (int place = 0; place < 64; place++) {
                due("byteAt " + place, x.byteAt(place), (byte) (first + place));
            }
        }
        Schemabridge x = usual();
        x.set(x.create(0), 1, 5);
        x.write(0);
        due("put behind what was written", x.put((byte) 9), 3);
        due("the tape", Bridges.told(x), "8 5 9");
        x.cut(1);
        due("put behind what was cut", x.put((byte) 7), 2);
        due("the tape", Bridges.told(x), "8 7");
    }

    private static void promise26HowMany() {
        promise(26, "Returns how many bytes the tape has then.");
        Schemabridge x = new Schemabridge();
        for (int bytes = 1; bytes <= 120; bytes++) {
            due("put", x.put((byte) 0), bytes);
        }
    }

    private static void promise26AtMost120() {
        promise(26, "Throws `IllegalStateException` if it has 120");
        for (int value : new int[] {-128, -1, 0, 127}) {
            refused(STATE, "the 121st byte", FULL, x -> x.put((byte) value));
        }
        Schemabridge x = Bridges.full();
        x.cut(119);
        due("the 120th byte", x.put((byte) -1), 120);
        due("it", x.byteAt(119), (byte) -1);
        refused(STATE, "the 121st behind a full message", () -> {
            Schemabridge y = Bridges.full();
            y.cut(0);
            y.write(0);
            return y;
        }, y -> y.put((byte) 0));
    }

    // ---- Promise 27

    private static void promise27KeepsTheFirst() {
        promise(27, "Cuts the tape: it keeps its first bytes.");
        for (int length = 0; length <= 5; length++) {
            Schemabridge x = laid(1, 2, 3, 4, 5);
            x.cut(length);
            due("the tape", Bridges.told(x), "1 2 3 4 5".substring(0, Math.max(0, 2 * length - 1)));
        }
    }

    private static void promise27HowManyStay() {
        promise(27, "how many bytes stay");
        for (int length : new int[] {120, 119, 60, 1, 0}) {
            Schemabridge x = Bridges.full();
            x.cut(length);
            due("length", x.length(), length);
            due("byteAt the end", Checks.thrownBy(() -> x.byteAt(length)), "IndexOutOfBoundsException");
        }
    }

    private static void promise27HowManyAreCutOff() {
        promise(27, "Returns how many bytes are cut off.");
        for (int length : new int[] {120, 119, 60, 1, 0}) {
            due("cut", Bridges.full().cut(length), 120 - length);
        }
        Schemabridge x = laid(1, 2, 3);
        due("cut to the same length", x.cut(3), 0);
        due("cut", x.cut(1), 2);
        due("cut again", x.cut(1), 0);
        due("cut to none", x.cut(0), 1);
        due("cut of none", x.cut(0), 0);
    }

    private static void promise27NoSuchLength() {
        promise(27, "if length is below 0 or above the length of the tape");
        for (int length : new int[] {-1, -2, 5, 6, 120, 121, 256, LEAST, LEAST + 1, GREATEST}) {
            refused(PLACE, "length " + length, BUSY, x -> x.cut(length));
        }
        refused(PLACE, "length 121 of 120", FULL, x -> x.cut(121));
        refused(PLACE, "length -1 of 120", FULL, x -> x.cut(-1));
        refused(PLACE, "length 1 of none", Schemabridge::new, x -> x.cut(1));
        refused(PLACE, "a length that it had", () -> {
            Schemabridge x = laid(1, 2, 3);
            x.cut(1);
            return x;
        }, x -> x.cut(2));
    }

    // ---- Promises 28 and 29

    private static void promise28Length() {
        promise(28, "Returns how many bytes the tape has.");
        Schemabridge x = usual();
        due("at first", x.length(), 0);
        for (int bytes = 1; bytes <= 120; bytes++) {
            x.put((byte) 0);
            due("after a put", x.length(), bytes);
        }
        Checks.thrownBy(() -> x.put((byte) 0));
        due("after a refused put", x.length(), 120);
        x.cut(7);
        due("after a cut", x.length(), 7);
        Checks.thrownBy(() -> x.cut(8));
        due("after a refused cut", x.length(), 7);
        x.create(0);
        x.write(0);
        due("after a write of no bytes", x.length(), 0);
        Schemabridge y = Bridges.full();
        y.discard(3);
        y.read(0);
        y.fault();
        y.isCanonical(0);
        due("after a read", y.length(), 120);
        due("asked again", y.length(), 120);
    }

    private static void promise29Byte() {
        promise(29, "Returns a byte of the tape.");
        Schemabridge x = laid(0, 127, 128, 255);
        due("byteAt 0", x.byteAt(0), (byte) 0);
        due("byteAt 1", x.byteAt(1), (byte) 127);
        due("byteAt 2", x.byteAt(2), (byte) -128);
        due("byteAt 3", x.byteAt(3), (byte) -1);
        due("the last of 120", Bridges.full().byteAt(119), (byte) 0);
        due("the one ahead of it", Bridges.full().byteAt(118), (byte) 42);
    }

    private static void promise29NoSuchByte() {
        promise(29, "if there is no such byte");
        for (int place : new int[] {-1, -2, 4, 5, 119, 120, 256, LEAST, LEAST + 1, GREATEST}) {
            refused(PLACE, "place " + place, BUSY, x -> x.byteAt(place));
        }
        refused(PLACE, "place 120 of 120", FULL, x -> x.byteAt(120));
        refused(PLACE, "place -1 of 120", FULL, x -> x.byteAt(-1));
        refused(PLACE, "place 0 of none", Schemabridge::new, x -> x.byteAt(0));
        refused(PLACE, "a place that was cut off", () -> {
            Schemabridge x = laid(1, 2, 3);
            x.cut(2);
            return x;
        }, x -> x.byteAt(2));
    }

    // ---- Promises 30 and 31

    private static void fault(int want, int wantAt, int... bytes) {
        Schemabridge x = laid(bytes);
        String what = " of " + Bridges.told(x);
        due("fault" + what, x.fault(), want);
        due("faultAt" + what, x.faultAt(), wantAt);
        due("the tape after it", x.length(), bytes.length);
        due("read" + what, Checks.thrownBy(() -> x.read(0)), want == 0 ? "no exception but 0" : "IllegalArgumentException");
        due("isCanonical" + what, want == 0 || !x.isCanonical(0), true);
    }

    private static void promise30FieldsOneAfterTheOther() {
        promise(30, "Returns the first fault of the tape, read as fields one after the other.");
        fault(1, 2, 8, 1, 8);
        fault(4, 2, 8, 1, 9, 8);
        fault(3, 2, 10, 0, 0, 9);
        fault(2, 5, 13, 9, 9, 9, 9, 8, 128, 128, 128, 128, 16, 0, 9);
        fault(4, 0, 9, 0, 0);
        fault(3, 0, 0, 9, 8);
        fault(0, NONE, 10, 3, 0, 9, 128, 8, 1);
        fault(0, NONE, 13, 0, 9, 128, 255, 8, 1);
        fault(0, NONE, 8, 128, 0, 8, 1);
    }

    private static void promise30NoFault() {
        promise(30, "Returns 0 none");
        fault(0, NONE);
        fault(0, NONE, 8, 0);
        fault(0, NONE, 10, 0);
        fault(0, NONE, 13, 0, 0, 0, 0);
        fault(0, NONE, 248, 1, 0, 250, 1, 0, 253, 1, 0, 0, 0, 0);
        fault(0, NONE, Bridges.pairs(120, 8, 0));
        int[] forty = new int[120];
        for (int place = 0; place < 120; place += 3) {
            forty[place] = 250;
            forty[place + 1] = 1;
        }
        fault(0, NONE, forty);
        int[] full = new int[120];
        full[0] = 10;
        full[1] = 118;
        fault(0, NONE, full);
        due("fault of what was written", faultOfWritten(), 0);
    }

    private static int faultOfWritten() {
        Schemabridge x = Bridges.full();
        x.cut(1);
        x.write(0);
        return x.fault();
    }

    private static void promise30EndsWithinAGroupNumber() {
        promise(30, "1 the tape ends within a group number");
        int[][] heads = {{}, {8}, {10}, {248, 1}};
        for (int[] head : heads) {
            for (int bytes = head.length == 0 ? 1 : 0; bytes <= 4; bytes++) {
                int[] groups = new int[bytes];
                Arrays.fill(groups, 128);
                fault(1, 0, Bridges.joined(head, groups));
                Arrays.fill(groups, 255);
                fault(1, 0, Bridges.joined(head, groups));
                int[] ahead = Bridges.joined(new int[] {8, 1, 13, 0, 0, 0, 0}, head);
                fault(1, 7, Bridges.joined(ahead, groups));
            }
        }
        fault(1, 118, Bridges.joined(Bridges.pairs(118, 8, 1), 8, 128));
        fault(1, 118, Bridges.joined(Bridges.pairs(118, 8, 1), 8));
        fault(1, 119, Bridges.joined(Bridges.joined(Bridges.pairs(116, 8, 1), 10, 1, 1), 8));
    }

    private static void promise30EndsWithinFourBytes() {
        promise(30, "within four bytes");
        for (int bytes = 0; bytes <= 3; bytes++) {
            int[] four = new int[bytes];
            fault(1, 0, Bridges.joined(new int[] {13}, four));
            Arrays.fill(four, 255);
            fault(1, 0, Bridges.joined(new int[] {13}, four));
            fault(1, 2, Bridges.joined(new int[] {8, 1, 253, 1}, four));
        }
        fault(0, NONE, 13, 255, 255, 255, 255);
        fault(1, 116, Bridges.joined(Bridges.pairs(116, 8, 1), 13, 0, 0, 0));
        fault(0, NONE, Bridges.joined(Bridges.joined(Bridges.pairs(112, 8, 1), 10, 1, 1), 13, 0, 0, 0, 0));
    }

    private static void promise30EndsAheadOfTheEndOfTheBytes() {
        promise(30, "or ahead of the end of the bytes of a BYTES field");
        fault(1, 0, 10, 1);
        fault(1, 0, 10, 2, 0);
        fault(0, NONE, 10, 2, 0, 0);
        fault(1, 3, 10, 1, 1, 10, 3, 1, 1);
        fault(1, 0, 10, 127);
        fault(1, 0, 10, 128, 1);
        int[] full = new int[120];
        full[0] = 10;
        full[1] = 119;
        fault(1, 0, full);
        full[1] = 120;
        fault(1, 0, full);
        full[1] = 118;
        fault(0, NONE, full);
        // 117 bytes, and the last one is a key of its own.
        full[1] = 117;
        full[119] = 10;
        fault(1, 119, full);
    }

    private static void promise30CountsThatWrapAround() {
        promise(30, "ahead of the end of the bytes");
        fault(1, 0, 10, 255, 255, 255, 255, 7, 1, 1, 1);
        fault(1, 0, 10, 128, 128, 128, 128, 8, 1, 1, 1);
        fault(1, 0, 10, 129, 128, 128, 128, 8, 1, 1, 1);
        fault(1, 0, 10, 255, 255, 255, 255, 15, 1, 1, 1);
        fault(1, 0, 10, 250, 255, 255, 255, 15, 1, 1, 1);
        fault(1, 2, 8, 1, 10, 250, 255, 255, 255, 15, 8, 1);
        fault(1, 2, 8, 1, 10, 131, 128, 128, 128, 8, 1, 1, 1);
        fault(1, 0, 10, 131, 2, 1, 1, 1);
        fault(1, 0, 10, 131, 128, 4, 1, 1, 1);
        fault(1, 0, 10, 131, 128, 128, 128, 1, 1, 1, 1);
        fault(0, NONE, 10, 131, 128, 128, 128, 0, 1, 1, 1);
    }

    private static void promise30FifthByteAbove15() {
        promise(30, "2 a group number has a fifth byte that is above 15 (as a number from 0 to 255)");
        for (int fifth = 0; fifth < 256; fifth++) {
            boolean isAbove = fifth > 15;
            fault(isAbove ? 2 : 0, isAbove ? 0 : NONE, 8, 128, 128, 128, 128, fifth);
            fault(isAbove ? 2 : fifth == 0 ? 0 : 3, isAbove || fifth > 0 ? 0 : NONE, 136, 128, 128, 128, fifth, 0);
            fault(isAbove ? 2 : fifth == 0 ? 0 : 1, isAbove || fifth > 0 ? 0 : NONE, 10, 128, 128, 128, 128, fifth);
        }
        fault(2, 0, 8, 255, 255, 255, 255, 16);
        fault(2, 0, 8, 128, 128, 128, 128, 128);
        fault(2, 0, 8, 128, 128, 128, 128, 128, 0);
        fault(2, 2, 10, 0, 10, 128, 128, 128, 128, 16);
        fault(2, 114, Bridges.joined(Bridges.pairs(114, 8, 1), 8, 128, 128, 128, 128, 16));
    }

    /** What may stand behind a key of each type: 0 and two fields, or four bytes and one field. */
    private static final int[] ANY = {0, 10, 1, 9, 8, 0};

    private static void faultOfKey(int want, int... key) {
        fault(want, want == 0 ? NONE : 0, Bridges.joined(key, ANY));
    }

    private static void promise30Tags() {
        promise(30, "3 the tag of a field is not 1 to 31");
        for (int type : new int[] {0, 2, 5}) {
            faultOfKey(0, 8 + type);
            faultOfKey(0, 248 + type, 1);
            faultOfKey(3, type);
            faultOfKey(3, 128 + type, 2);
            // 33, 65, 2^15 + 1, 2^28 + 1 and 2^29 - 1: what would be a tag if its upper bits were lost.
            faultOfKey(3, 136 + type, 2);
            faultOfKey(3, 136 + type, 4);
            faultOfKey(3, 136 + type, 128, 16);
            faultOfKey(3, 136 + type, 128, 128, 128, 8);
            faultOfKey(3, 248 + type, 255, 255, 255, 15);
        }
        fault(0, NONE, 248, 129, 0, 0);
        fault(3, 0, 128, 128, 0, 0);
    }

    private static void promise30Types() {
        promise(30, "4 the type of a field is not 0, 2 or 5");
        for (int tag = 1; tag <= 31; tag++) {
            for (int type = 0; type <= 7; type++) {
                boolean isType = type == 0 || type == 2 || type == 5;
                int key = 8 * tag + type;
                int[] bytes = key < 128 ? new int[] {key} : new int[] {key % 128 + 128, 1};
                faultOfKey(isType ? 0 : 4, bytes);
            }
        }
        fault(4, 2, 8, 1, 137, 128, 128, 128, 0, 1);
    }

    private static void promise31WhereTheFieldBegins() {
        promise(31, "Returns where the field begins that has the first fault: the place of its first byte");
        for (int fields = 0; fields < 60; fields++) {
            int[] ahead = Bridges.pairs(2 * fields, 8, 1);
            fault(1, 2 * fields, Bridges.joined(ahead, 8));
            fault(4, 2 * fields, Bridges.joined(ahead, 9, 0));
            fault(3, 2 * fields, Bridges.joined(ahead, 1));
        }
        fault(2, 3, 34, 1, 7, 34, 129, 128, 128, 128, 16, 0);
        fault(1, 9, 13, 0, 0, 0, 0, 248, 1, 128, 1, 248, 1, 128);
        fault(4, 119, Bridges.joined(Bridges.joined(Bridges.pairs(116, 8, 1), 10, 1, 1), 9));
        fault(3, 119, Bridges.joined(Bridges.joined(Bridges.pairs(116, 8, 1), 10, 1, 1), 5));
    }

    private static void promise31NoFault() {
        promise(31, "NONE without a fault.");
        fault(0, NONE);
        fault(0, NONE, Bridges.pairs(120, 8, 1));
        Schemabridge x = laid(8, 1, 8);
        due("faultAt", x.faultAt(), 2);
        x.put((byte) 1);
        due("faultAt when it is mended", x.faultAt(), NONE);
        x.put((byte) 9);
        due("faultAt of another", x.faultAt(), 4);
        x.cut(4);
        due("faultAt when it is cut off", x.faultAt(), NONE);
        Bridges.lay(x, 8, 1, 8);
        due("faultAt ahead of a cut", x.faultAt(), 2);
        x.cut(0);
        due("faultAt of no bytes", x.faultAt(), NONE);
        due("fault of no bytes", x.fault(), 0);
    }

    private static void promise31OrderOfFaults() {
        promise(31, "Of one field the fault in the key comes first, in the order 1 or 2, 3, 4.");
        // The tag ahead of the type, and both ahead of the value.
        fault(3, 0, 1);
        fault(3, 0, 129, 2);
        fault(3, 0, 7, 128);
        fault(3, 0, 0);
        fault(3, 0, 2, 5);
        fault(3, 0, 5, 1);
        fault(3, 0, 0, 128, 128, 128, 128, 16);
        fault(3, 0, 128, 2, 128, 128, 128, 128, 16);
        fault(4, 0, 9);
        fault(4, 0, 11, 128);
        fault(4, 0, 15, 128, 128, 128, 128, 16);
        fault(4, 0, 252, 1);
        // A key without an end has neither tag nor type, whatever its groups say.
        fault(1, 0, 129);
        fault(1, 0, 135, 130);
        fault(1, 0, 129, 128, 128, 128);
        fault(2, 0, 129, 128, 128, 128, 16);
        fault(2, 0, 143, 128, 128, 128, 255);
        fault(2, 0, 128, 128, 128, 128, 128);
        // The first field's fault comes first, though a later one's stands ahead of it in the order.
        fault(4, 0, 9, 8);
        fault(4, 2, 8, 1, 9, 0, 0);
        fault(3, 0, 0, 128, 128, 128, 128, 16);
    }

    // ---- Promise 32

    private static void promise32FieldsInTheirOrder() {
        promise(32, "Reads a message from the tape: its fields are those on the tape, in their order.");
        Schemabridge x = laid(248, 1, 1, 8, 0, 8, 5, 8, 5, 34, 0, 13, 1, 2, 3, 4, 34, 1, 9, 16, 0);
        due("read", x.read(1), 0);
        due("the order", Bridges.unknownTags(x, 0), " 31 1 1 1 4 1 4 2");
        due("schemaOf", x.schemaOf(0), 1);
        due("what is written", Bridges.written(x, 0), "8 0 8 5 8 5 13 1 2 3 4 16 0 34 0 34 1 9 248 1 1");
        due("how many", x.discard(0), 8);
        Schemabridge none = laid();
        due("read of no bytes", none.read(0), 0);
        due("its fields", none.discard(0), 0);
        Schemabridge sixty = laid(Bridges.pairs(120, 8, 5));
        due("read of sixty", sixty.read(1), 0);
        due("its fields", sixty.unknowns(0), 60);
        Schemabridge one = laid(Bridges.joined(new int[] {34, 118}, Bridges.pairs(118, 8, 5)));
        due("read of one of 118 bytes", one.read(0), 0);
        due("its last byte", one.byteOf(0, 4, 117), (byte) 5);
    }

    private static void promise32MessagesAreApartFromTheTape() {
        promise(32, "Reads a message from the tape");
        Schemabridge x = laid(8, 5, 34, 1, 7);
        x.read(0);
        due("the tape after it", Bridges.told(x), "8 5 34 1 7");
        x.cut(0);
        x.put((byte) 9);
        due("get", x.get(0, 1), 5);
        due("byteOf", x.byteOf(0, 4, 0), (byte) 7);
        x.set(0, 1, 6);
        due("the tape after a change of the message", Bridges.told(x), "9");
    }

    private static void promise32Number() {
        promise(32, "Returns its number.");
        Schemabridge x = laid(8, 5);
        for (int number = 0; number < 12; number++) {
            due("read", x.read(number % 2), number);
        }
        x.discard(7);
        x.discard(2);
        due("read in the least that is free", x.read(0), 2);
        due("read in the next", x.read(1), 7);
    }

    private static Schemabridge fullWithAFault() {
        Schemabridge x = Bridges.full();
        x.cut(119);
        return x;
    }

    private static void promise32NoSuchSchema() {
        promise(32, "if there is no such schema");
        due("the last schema", Bridges.busy().read(1), 1);
        Supplier<Schemabridge> faulty = TapeEdges::fullWithAFault;
        for (int schema : NO_SCHEMAS_OF_BUSY) {
            refused(PLACE, "schema " + schema, BUSY, x -> x.read(schema));
        }
        for (int schema : new int[] {6, -1, LEAST, GREATEST}) {
            refused(PLACE, "schema " + schema + " with twelve messages", FULL, x -> x.read(schema));
            refused(PLACE, "schema " + schema + " with twelve messages and a fault", faulty, x -> x.read(schema));
        }
    }

    private static void promise32Fault() {
        promise(32, "if the tape has a fault");
        int[][] faulty = {{8}, {128}, {13, 0, 0, 0}, {10, 1}, {8, 128, 128, 128, 128, 16}, {0, 0}, {9, 0}, {8, 1, 34, 0, 9}};
        for (int[] bytes : faulty) {
            refused(ARGUMENT, "a tape that begins with " + bytes[0], () -> laid(bytes), x -> x.read(0));
        }
        refused(ARGUMENT, "a fault, and twelve messages", TapeEdges::fullWithAFault, x -> x.read(0));
        refused(ARGUMENT, "a fault behind 59 fields", () -> laid(Bridges.joined(Bridges.pairs(118, 8, 1), 8, 128)), x -> x.read(0));
    }

    private static void promise32AtMostTwelve() {
        promise(32, "Throws `IllegalStateException` if there are 12 messages");
        Schemabridge x = Bridges.full();
        x.discard(11);
        due("the twelfth", x.read(5), 11);
        refused(STATE, "the thirteenth", FULL, y -> y.read(5));
        refused(STATE, "the thirteenth of no bytes", () -> {
            Schemabridge y = Bridges.full();
            y.cut(0);
            return y;
        }, y -> y.read(0));
    }

    // ---- Promise 33

    /** Whether the bytes are canonical by schema 0, and by schema 1, which has no kinds. */
    private static void canonical(boolean want, boolean wantWithoutKinds, int... bytes) {
        Schemabridge x = laid(bytes);
        String what = "isCanonical of " + Bridges.told(x);
        due(what, x.isCanonical(0), want);
        due(what + " without kinds", x.isCanonical(1), wantWithoutKinds);
        due("the tape after it", x.length(), bytes.length);
        due("a message after it", Checks.thrownBy(() -> x.schemaOf(0)), "IndexOutOfBoundsException");
    }

    private static void promise33NoFault() {
        promise(33, "Returns whether the tape has no fault");
        canonical(true, true);
        canonical(true, true, 8, 1);
        canonical(false, false, 8);
        canonical(false, false, 8, 1, 8);
        canonical(false, false, 8, 1, 0);
        canonical(false, false, 9, 1);
        canonical(false, false, 13, 0, 0, 0);
        canonical(false, false, 8, 128, 128, 128, 128, 16);
        canonical(false, false, Bridges.joined(Bridges.pairs(118, 48, 0), 48, 128));
    }

    private static void promise33JustTheCanonicalBytes() {
        promise(33, "and is just the canonical bytes of what read() would make of it");
        canonical(true, true, 8, 1, 16, 1, 29, 1, 0, 0, 0, 34, 0, 42, 0, 48, 0, 248, 1, 0);
        canonical(false, false, 16, 1, 8, 1);
        canonical(false, true, 8, 1, 8, 1);
        canonical(false, true, 8, 1, 8, 2);
        canonical(false, true, 34, 1, 7, 34, 0);
        canonical(false, true, 8, 0);
        canonical(false, true, 16, 0);
        canonical(false, true, 29, 0, 0, 0, 0);
        canonical(true, true, 34, 0);
        canonical(true, true, 42, 0);
        canonical(true, true, 48, 1, 48, 0, 48, 0, 50, 0);
        canonical(true, true, 10, 0, 13, 0, 0, 0, 0, 8, 1);
        canonical(true, true, 10, 0, 8, 1, 13, 0, 0, 0, 0);
        canonical(true, true, 248, 1, 1);
        canonical(false, false, 248, 1, 1, 240, 1, 1);
    }

    private static void promise33MoreGroupsThanAreNeeded() {
        promise(33, "just the canonical bytes");
        canonical(false, false, 8, 129, 0);
        canonical(false, false, 8, 129, 128, 128, 128, 0);
        canonical(false, false, 136, 0, 1);
        canonical(false, false, 136, 128, 128, 128, 0, 1);
        canonical(false, false, 34, 128, 0);
        canonical(false, false, 34, 129, 0, 7);
        canonical(false, false, 248, 129, 0, 1);
        canonical(true, true, 8, 128, 1);
        canonical(true, true, 8, 255, 255, 255, 255, 15);
        canonical(true, true, 42, 3, 8, 129, 0);
        canonical(true, true, 42, 4, 16, 1, 8, 1);
        // As long as what is canonical, but not the same.
        canonical(false, false, 8, 128, 0);
    }

    private static void promise33DefaultsAsTheyAreNow() {
        promise(33, "of what read() would make of it");
        Schemabridge x = laid(8, 5);
        due("by the default 0", x.isCanonical(0), true);
        x.setDefault(0, 1, 5);
        due("by the default 5", x.isCanonical(0), false);
        x.setKind(0, 1, SIGNED, 0);
        due("as SIGNED", x.isCanonical(0), true);
        x.setDefault(0, 1, -3);
        due("by the default that it stands for", x.isCanonical(0), false);
        x.setKind(0, 1, TEXT, 0);
        due("as an unknown one", x.isCanonical(0), true);
    }

    private static void promise33AlsoWithTwelveMessages() {
        promise(33, "(also with 12 messages)");
        Schemabridge x = Bridges.full();
        due("a full tape that is not in order", x.isCanonical(0), false);
        x.write(0);
        due("a full tape that is", x.isCanonical(0), true);
        due("by the last schema", x.isCanonical(5), true);
        x.cut(119);
        due("a fault", x.isCanonical(0), false);
        x.cut(0);
        due("no bytes", x.isCanonical(0), true);
        for (int message = 0; message < 12; message++) {
            due("the message that stays", x.schemaOf(message), message == 0 || message == 11 ? 0 : 1);
        }
    }

    private static void promise33FullTapes() {
        promise(33, "is just the canonical bytes");
        canonical(true, true, Bridges.pairs(120, 48, 9));
        canonical(false, true, Bridges.pairs(120, 8, 9));
        canonical(true, true, Bridges.joined(new int[] {8, 1}, Bridges.pairs(118, 48, 9)));
        canonical(false, false, Bridges.joined(Bridges.pairs(118, 48, 9), 8, 1));
        canonical(false, false, Bridges.joined(Bridges.pairs(118, 48, 9), 40, 9));
        canonical(true, true, Bridges.joined(Bridges.pairs(118, 48, 9), 56, 9));
    }

    private static void promise33NoSuchSchema() {
        promise(33, "if there is no such schema");
        due("the last schema", Bridges.busy().isCanonical(1), true);
        for (int schema : NO_SCHEMAS_OF_BUSY) {
            refused(PLACE, "schema " + schema, BUSY, x -> x.isCanonical(schema));
        }
        refused(PLACE, "the number 6 with twelve messages", FULL, x -> x.isCanonical(6));
        refused(PLACE, "the number 6 with a fault", TapeEdges::fullWithAFault, x -> x.isCanonical(6));
    }
}
