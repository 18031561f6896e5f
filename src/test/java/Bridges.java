/** The objects that most tests begin with, and their tapes with whole rows of bytes. */
final class Bridges {
    private Bridges() {
    }

    static Schemabridge withSchemas(int count) {
        Schemabridge bridge = new Schemabridge();
        for (int made = 0; made < count; made++) {
            bridge.addSchema();
        }
        return bridge;
    }

    /** Schema 0 has PLAIN, SIGNED, FOUR, TEXT and PART for the tags 1 to 5; schema 1 has no kinds. */
    static Schemabridge usual(int schemaOfThePart) {
        Schemabridge bridge = withSchemas(2);
        for (int kind = 0; kind <= 4; kind++) {
            bridge.setKind(0, kind + 1, kind, schemaOfThePart);
        }
        return bridge;
    }

    /** Two schemas with kinds and defaults; the messages 0 and 2, but none at 1; some bytes on the tape. */
    static Schemabridge busy() {
        Schemabridge bridge = usual(1);
        bridge.setKind(1, 1, Schemabridge.PLAIN, 0);
        bridge.setDefault(1, 1, 3);
        bridge.setDefault(0, 2, -5);
        readOf(bridge, 0, 8, 1, 13, 9, 0, 0, 0, 8, 2, 16, 2, 10, 1, 5, 42, 2, 8, 7, 248, 1, 1, 34, 1, 65);
        bridge.create(1);
        bridge.create(0);
        bridge.discard(1);
        bridge.set(2, 3, -1);
        bridge.append(2, 5, (byte) 8);
        lay(bridge, 8, 1, 34, 0);
        return bridge;
    }

    /**
     * Nothing more fits: 6 schemas; 12 messages, of which 0 and 11 (of schema 0) weigh 120 and the others (of schema 1)
     * nothing; 120 bytes on the tape. The full ones have 114 bytes for tag 4, 1 for tag 1, and no bytes for tag 5.
     */
    static Schemabridge full() {
        Schemabridge bridge = usual(1);
        for (int schema = 2; schema < 6; schema++) {
            bridge.addSchema();
        }
        int[] bytes = new int[120];
        bytes[0] = 34;
        bytes[1] = 114;
        bytes[115] = 200;
        bytes[116] = 8;
        bytes[117] = 1;
        bytes[118] = 42;
        readOf(bridge, 0, bytes);
        for (int message = 1; message < 11; message++) {
            bridge.create(1);
        }
        bridge.read(0);
        return bridge;
    }

    static void lay(Schemabridge bridge, int... bytes) {
        bridge.cut(0);
        for (int each : bytes) {
            bridge.put((byte) each);
        }
    }

    static int readOf(Schemabridge bridge, int schema, int... bytes) {
        lay(bridge, bytes);
        return bridge.read(schema);
    }

    /** The bytes on the tape as numbers from 0 to 255. */
    static String told(Schemabridge bridge) {
        StringBuilder text = new StringBuilder();
        int length = bridge.length();
        for (int place = 0; place < length; place++) {
            text.append(place == 0 ? "" : " ").append(bridge.byteAt(place) & 255);
        }
        return text.toString();
    }

    static String written(Schemabridge bridge, int message) {
        bridge.write(message);
        return told(bridge);
    }

    /** The tags of the unknown fields of a message, in the order of the row, each behind a space. */
    static String unknownTags(Schemabridge bridge, int message) {
        StringBuilder text = new StringBuilder();
        int count = bridge.unknowns(message);
        for (int place = 0; place < count; place++) {
            text.append(' ').append(bridge.unknownTag(message, place));
        }
        return text.toString();
    }

    /** A row of numbers with some others behind them. */
    static int[] joined(int[] first, int... behind) {
        int[] all = java.util.Arrays.copyOf(first, first.length + behind.length);
        System.arraycopy(behind, 0, all, first.length, behind.length);
        return all;
    }

    /** Fields of two bytes each, until the row has so many bytes. */
    static int[] pairs(int bytes, int key, int value) {
        int[] all = new int[bytes];
        for (int place = 0; place < bytes; place++) {
            all[place] = place % 2 == 0 ? key : value;
        }
        return all;
    }
}
