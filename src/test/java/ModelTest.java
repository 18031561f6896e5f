import java.util.Random;

/** Many runs of calls, each asked of the class and of the model; the same runs every time. */
final class ModelTest {
    private static final int RUNS = 6000;
    private static final int CALLS = 480;
    private static final int[] ODD_INTS = {-1, 0, 32, 33, 120, 121, Integer.MIN_VALUE, Integer.MAX_VALUE, 12, 6};
    private static final int[] VALUES = {
        0, 1, -1, 2, 63, 64, -64, -65, 127, 128, 300, 16383, 16384, 2097151, 2097152, 268435455, 268435456,
        Integer.MIN_VALUE, Integer.MAX_VALUE, 0x01020304};
    private static final Checks CHECKS = new Checks("ModelTest");

    private final Random random;
    private final Schemabridge bridge = new Schemabridge();
    private final Model model = new Model();
    private final int tags;
    private final boolean isMessy;
    private final StringBuilder told = new StringBuilder();
    private int calls;
    private boolean isWrong;

    private ModelTest(long seed) {
        random = new Random(seed);
        tags = 1 + random.nextInt(5);
        isMessy = random.nextInt(4) == 0;
    }

    public static void main(String[] args) {
        for (int seed = 0; seed < RUNS; seed++) {
            new ModelTest(seed).run();
        }
        CHECKS.end();
    }

    private void run() {
        int first = random.nextInt(7);
        for (int schema = 0; schema < first; schema++) {
            ask("addSchema()", bridge::addSchema, model::addSchema);
        }
        int kinds = random.nextInt(20);
        for (int kind = 0; kind < kinds; kind++) {
            setKind();
        }
        while (calls < CALLS && !isWrong) {
            step();
        }
    }

    private void ask(String call, Checks.Call ours, Checks.Call due) {
        if (isWrong || calls >= 512) {
            return;
        }
        calls++;
        Object got = Checks.thrownBy(ours);
        Object want = Checks.thrownBy(due);
        told.append(call).append(" = ").append(want).append('\n');
        if (!want.equals(got)) {
            isWrong = true;
            System.out.println(told);
        }
        CHECKS.due(call, got, want);
    }

    private int odd() {
        return ODD_INTS[random.nextInt(ODD_INTS.length)];
    }

    private boolean seldom() {
        return random.nextInt(isMessy ? 6 : 40) == 0;
    }

    private int schema() {
        return seldom() ? odd() : random.nextInt(6);
    }

    private int message() {
        return seldom() ? odd() : random.nextInt(isMessy ? 12 : 4);
    }

    private int tag() {
        if (seldom()) {
            return odd();
        }
        int tag = random.nextInt(tags);
        return tag == 3 ? 16 : tag == 4 ? 31 : tag + 1;
    }

    private int value() {
        return random.nextInt(3) == 0 ? random.nextInt() : VALUES[random.nextInt(VALUES.length)];
    }

    private byte someByte() {
        return (byte) (random.nextInt(3) == 0 ? random.nextInt() : random.nextInt(10));
    }

    private int place() {
        return seldom() ? odd() : random.nextInt(8);
    }

    private void setKind() {
        int schema = schema();
        int tag = tag();
        int kind = seldom() ? odd() : random.nextInt(5);
        int of = schema();
        ask("setKind(" + schema + ", " + tag + ", " + kind + ", " + of + ")",
            () -> bridge.setKind(schema, tag, kind, of), () -> model.setKind(schema, tag, kind, of));
    }

    private void step() {
        int choice = random.nextInt(100);
        if (choice < 12) {
            stepOfSchemas(choice);
        } else if (choice < 40) {
            stepOfMessages(choice);
        } else if (choice < 65) {
            stepOfContents(choice);
        } else if (choice < 85) {
            stepOfTape(choice);
        } else if (choice < 93) {
            layTape();
        } else {
            readBack();
        }
    }

    private void stepOfSchemas(int choice) {
        int schema = schema();
        int tag = tag();
        int value = value();
        switch (choice) {
            case 0 -> ask("addSchema()", bridge::addSchema, model::addSchema);
            case 1, 2, 3 -> setKind();
            case 4 -> ask("dropKind(" + schema + ", " + tag + ")",
                () -> bridge.dropKind(schema, tag), () -> model.dropKind(schema, tag));
            case 5, 6 -> ask("setDefault(" + schema + ", " + tag + ", " + value + ")",
                () -> bridge.setDefault(schema, tag, value), () -> model.setDefault(schema, tag, value));
            case 7 -> ask("kindOf(" + schema + ", " + tag + ")",
                () -> bridge.kindOf(schema, tag), () -> model.kindOf(schema, tag));
            default -> {
                int by = schema();
                ask("conflict(" + schema + ", " + by + ")",
                    () -> bridge.conflict(schema, by), () -> model.conflict(schema, by));
            }
        }
    }

    private void stepOfMessages(int choice) {
        int schema = schema();
        int message = message();
        int other = message();
        int tag = tag();
        int value = value();
        byte each = someByte();
        String both = "(" + message + ", " + tag;
        switch (choice) {
            case 12, 13 -> ask("create(" + schema + ")", () -> bridge.create(schema), () -> model.create(schema));
            case 14, 15 -> ask("copy(" + message + ", " + schema + ")",
                () -> bridge.copy(message, schema), () -> model.copy(message, schema));
            case 16, 17 -> ask("discard(" + message + ")", () -> bridge.discard(message), () -> model.discard(message));
            case 18 -> ask("clear" + both + ")", () -> bridge.clear(message, tag), () -> model.clear(message, tag));
            case 19, 20, 21, 22, 23, 24, 25 -> ask("set" + both + ", " + value + ")", () -> {
                bridge.set(message, tag, value);
                return "nothing";
            }, () -> {
                model.set(message, tag, value);
                return "nothing";
            });
            case 26, 27, 28, 29 -> ask("setPart" + both + ", " + other + ")",
                () -> bridge.setPart(message, tag, other), () -> model.setPart(message, tag, other));
            default -> {
                int times = 1 + random.nextInt(random.nextInt(8) == 0 ? 60 : 3);
                for (int time = 0; time < times && calls < CALLS; time++) {
                    ask("append" + both + ", " + each + ")",
                        () -> bridge.append(message, tag, each), () -> model.append(message, tag, each));
                }
            }
        }
    }

    private void stepOfContents(int choice) {
        int message = message();
        int other = message();
        int tag = tag();
        int place = place();
        String both = "(" + message + ", " + tag;
        switch (choice) {
            case 40 -> ask("schemaOf(" + message + ")", () -> bridge.schemaOf(message), () -> model.schemaOf(message));
            case 41, 42 -> ask("has" + both + ")", () -> bridge.has(message, tag), () -> model.has(message, tag));
            case 43, 44, 45 -> ask("get" + both + ")", () -> bridge.get(message, tag), () -> model.get(message, tag));
            case 46, 47, 48 -> ask("byteOf" + both + ", " + place + ")",
                () -> bridge.byteOf(message, tag, place), () -> model.byteOf(message, tag, place));
            case 49, 50, 51, 52 -> ask("open" + both + ")", () -> bridge.open(message, tag), () -> model.open(message, tag));
            case 53 -> ask("unknowns(" + message + ")", () -> bridge.unknowns(message), () -> model.unknowns(message));
            case 54, 55 -> ask("unknownTag(" + message + ", " + place + ")",
                () -> bridge.unknownTag(message, place), () -> model.unknownTag(message, place));
            case 56, 57 -> ask("weight(" + message + ")", () -> bridge.weight(message), () -> model.weight(message));
            case 58, 59, 60 -> ask("areSame(" + message + ", " + other + ")",
                () -> bridge.areSame(message, other), () -> model.areSame(message, other));
            default -> ask("areSameByBytes(" + message + ", " + other + ")",
                () -> bridge.areSameByBytes(message, other), () -> model.areSameByBytes(message, other));
        }
    }

    private void stepOfTape(int choice) {
        int schema = schema();
        int message = message();
        byte each = someByte();
        int length = seldom() ? odd() : random.nextInt(bridge.length() + 1);
        switch (choice) {
            case 65, 66, 67 -> ask("write(" + message + ")", () -> bridge.write(message), () -> model.write(message));
            case 68, 69 -> ask("put(" + each + ")", () -> bridge.put(each), () -> model.put(each));
            case 70, 71 -> ask("cut(" + length + ")", () -> bridge.cut(length), () -> model.cut(length));
            case 72 -> ask("length()", bridge::length, model::length);
            case 73, 74 -> ask("byteAt(" + length + ")", () -> bridge.byteAt(length), () -> model.byteAt(length));
            case 75, 76 -> ask("fault()", bridge::fault, model::fault);
            case 77, 78 -> ask("faultAt()", bridge::faultAt, model::faultAt);
            case 79, 80, 81 -> ask("read(" + schema + ")", () -> bridge.read(schema), () -> model.read(schema));
            default -> ask("isCanonical(" + schema + ")", () -> bridge.isCanonical(schema), () -> model.isCanonical(schema));
        }
    }

    private void put(int each) {
        ask("put(" + (byte) each + ")", () -> bridge.put((byte) each), () -> model.put((byte) each));
    }

    /** A group number, now and then with more groups than needed, and seldom with too large a fifth one. */
    private void putGroups(int number) {
        int rest = number;
        int more = random.nextInt(4) == 0 ? random.nextInt(5) : 0;
        for (int group = 0; group < 4 && (rest >>> 7 != 0 || group < more); group++) {
            put(rest & 127 | 128);
            rest >>>= 7;
        }
        put(random.nextInt(60) == 0 ? rest + 16 : rest);
    }

    private void layTape() {
        if (random.nextInt(3) > 0) {
            ask("cut(0)", () -> bridge.cut(0), () -> model.cut(0));
        }
        int fields = random.nextInt(random.nextInt(10) == 0 ? 40 : 8);
        for (int field = 0; field < fields && calls < CALLS; field++) {
            int type = random.nextInt(60) == 0 ? random.nextInt(8) : new int[] {0, 0, 2, 5}[random.nextInt(4)];
            putGroups(8 * tag() + type);
            if (type == 2) {
                int bytes = random.nextInt(5);
                putGroups(seldom() ? value() : bytes);
                for (int each = 0; each < bytes; each++) {
                    put(someByte());
                }
            } else if (type == 5) {
                for (int each = 0; each < 4; each++) {
                    put(random.nextInt(4) == 0 ? random.nextInt(256) : 0);
                }
            } else {
                putGroups(random.nextBoolean() ? value() : random.nextInt(3));
            }
        }
        ask("faultAt()", bridge::faultAt, model::faultAt);
        int schema = schema();
        ask("read(" + schema + ")", () -> bridge.read(schema), () -> model.read(schema));
    }

    /** All canonical bytes of a message, by its own schema or by another: this is how a wrong change comes to light. */
    private void readBack() {
        int message = message();
        int schema = schema();
        ask("write(" + message + ")", () -> bridge.write(message), () -> model.write(message));
        ask("weight(" + message + ")", () -> bridge.weight(message), () -> model.weight(message));
        ask("isCanonical(" + schema + ")", () -> bridge.isCanonical(schema), () -> model.isCanonical(schema));
        int length = bridge.length();
        for (int turn = 0; turn < 12 && length > 0; turn++) {
            int place = random.nextInt(length);
            ask("byteAt(" + place + ")", () -> bridge.byteAt(place), () -> model.byteAt(place));
        }
    }
}
