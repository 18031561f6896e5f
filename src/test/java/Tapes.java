/** Puts whole rows of bytes on the tape of an object, and takes them from it. */
final class Tapes {
    private Tapes() {
    }

    static void lay(Schemabridge bridge, int... bytes) {
        bridge.cut(0);
        for (int each : bytes) {
            bridge.put((byte) each);
        }
    }

    static int readOf(Schemabridge bridge, int schema, int... bytes) {
        lay(bridge, bytes);
        return bridge.read(schema);
    }

    /** The bytes on the tape as numbers from 0 to 255. */
    static String told(Schemabridge bridge) {
        StringBuilder text = new StringBuilder();
        for (int place = 0; place < bridge.length(); place++) {
            text.append(place == 0 ? "" : " ").append(bridge.byteAt(place) & 255);
        }
        return text.toString();
    }

    static String written(Schemabridge bridge, int message) {
        bridge.write(message);
        return told(bridge);
    }
}
