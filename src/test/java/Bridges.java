/** The object that most tests begin with, and its tape with whole rows of bytes. */
final class Bridges {
    private Bridges() {
    }

    /** Schema 0 has PLAIN, SIGNED, FOUR, TEXT and PART for the tags 1 to 5; schema 1 has no kinds. */
    static Schemabridge usual(int schemaOfThePart) {
        Schemabridge bridge = new Schemabridge();
        bridge.addSchema();
        bridge.addSchema();
        for (int kind = 0; kind <= 4; kind++) {
            bridge.setKind(0, kind + 1, kind, schemaOfThePart);
        }
        return bridge;
    }

    static void lay(Schemabridge bridge, int... bytes) {
        bridge.cut(0);
        for (int each : bytes) {
            bridge.put((byte) each);
        }
    }

    static int readOf(Schemabridge bridge, int schema, int... bytes) {
        lay(bridge, bytes);
        return bridge.read(schema);
    }

    /** The bytes on the tape as numbers from 0 to 255. */
    static String told(Schemabridge bridge) {
        StringBuilder text = new StringBuilder();
        for (int place = 0; place < bridge.length(); place++) {
            text.append(place == 0 ? "" : " ").append(bridge.byteAt(place) & 255);
        }
        return text.toString();
    }

    static String written(Schemabridge bridge, int message) {
        bridge.write(message);
        return told(bridge);
    }
}
