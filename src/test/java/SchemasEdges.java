import java.util.function.Supplier;

/** The edges that promises 1 to 7 name: a new object, and the schemas. */
final class SchemasEdges extends Edges {
    /** The first and the last tag, and those where the key of a field begins to have two bytes. */
    private static final int[] TAGS = {1, 2, 15, 16, 30, 31};

    /** Schema 0 has a kind and a default for the tags of the edges; the last schema is number 2. */
    private static Schemabridge three() {
        Schemabridge x = Bridges.withSchemas(3);
        for (int tag : TAGS) {
            x.setKind(0, tag, PLAIN, 0);
            x.setDefault(0, tag, tag);
        }
        return x;
    }

    // ---- Promise 1

    private static void promise1WithoutSchemas() {
        promise(1, "Begins without schemas and messages, and with an empty tape.");
        Supplier<Schemabridge> made = Schemabridge::new;
        for (int schema : new int[] {0, 1, 5, 6, -1, LEAST, GREATEST}) {
            refused(PLACE, "kindOf schema " + schema, made, x -> x.kindOf(schema, 1));
            refused(PLACE, "create by schema " + schema, made, x -> x.create(schema));
            refused(PLACE, "read by schema " + schema, made, x -> x.read(schema));
            refused(PLACE, "isCanonical by schema " + schema, made, x -> x.isCanonical(schema));
        }
        due("the first schema", made.get().addSchema(), 0);
    }

    private static void promise1WithoutMessages() {
        promise(1, "Begins without schemas and messages");
        Supplier<Schemabridge> made = Schemabridge::new;
        for (int message = -1; message <= 12; message++) {
            int each = message;
            refused(PLACE, "schemaOf message " + each, made, x -> x.schemaOf(each));
        }
        Schemabridge x = Bridges.withSchemas(1);
        due("the first message", x.create(0), 0);
    }

    private static void promise1WithAnEmptyTape() {
        promise(1, "and with an empty tape");
        Schemabridge x = new Schemabridge();
        due("length", x.length(), 0);
        due("fault", x.fault(), 0);
        due("faultAt", x.faultAt(), NONE);
        due("cut to 0", x.cut(0), 0);
        refused(PLACE, "byteAt 0", Schemabridge::new, y -> y.byteAt(0));
        refused(PLACE, "cut to 1", Schemabridge::new, y -> y.cut(1));
    }

    private static void promise1ObjectsAreApart() {
        promise(1, "Begins without");
        Bridges.full();
        Schemabridge y = new Schemabridge();
        due("length beside a full object", y.length(), 0);
        due("addSchema beside a full object", y.addSchema(), 0);
        due("kindOf beside a full object", y.kindOf(0, 1), NONE);
        due("create beside a full object", y.create(0), 0);
    }

    // ---- Promise 2

    private static void promise2WithoutKinds() {
        promise(2, "Adds a schema without kinds.");
        Schemabridge x = Bridges.withSchemas(1);
        for (int tag = 1; tag <= 31; tag++) {
            x.setKind(0, tag, PLAIN, 0);
        }
        x.addSchema();
        for (int tag = 1; tag <= 31; tag++) {
            due("kindOf tag " + tag, x.kindOf(1, tag), NONE);
            due("kindOf tag " + tag + " of the one before", x.kindOf(0, tag), PLAIN);
        }
    }

    private static void promise2Number() {
        promise(2, "Returns its number.");
        Schemabridge x = new Schemabridge();
        for (int number = 0; number <= 5; number++) {
            due("addSchema", x.addSchema(), number);
        }
    }

    private static void promise2AtMostSix() {
        promise(2, "Throws `IllegalStateException` if there are 6");
        due("the sixth", Bridges.withSchemas(5).addSchema(), 5);
        refused(STATE, "the seventh", FULL, x -> x.addSchema());
        refused(STATE, "the seventh, after it was refused", () -> {
            Schemabridge x = Bridges.full();
            Checks.thrownBy(() -> x.addSchema());
            return x;
        }, x -> x.addSchema());
    }

    // ---- Promise 3

    private static void promise3InPlaceOfTheOneBefore() {
        promise(3, "Gives a tag of a schema a kind, in place of the one that it has");
        for (int tag : TAGS) {
            for (int before = PLAIN; before <= PART; before++) {
                for (int kind = PLAIN; kind <= PART; kind++) {
                    Schemabridge x = three();
                    x.setKind(0, tag, before, 1);
                    x.setKind(0, tag, kind, 2);
                    due("kindOf", x.kindOf(0, tag), kind);
                    due("kindOf the tag of another schema", x.kindOf(1, tag), NONE);
                    due("kindOf a tag beside it", x.kindOf(0, tag == 16 ? 15 : 16), PLAIN);
                }
            }
        }
    }

    private static void promise3PartInPlaceOfPart() {
        promise(3, "in place of the one that it has");
        Schemabridge x = three();
        x.setKind(0, 31, PART, 1);
        int read = Bridges.readOf(x, 0, 250, 1, 0);
        due("schemaOf the part before", x.schemaOf(x.open(read, 31)), 1);
        due("setKind", x.setKind(0, 31, PART, 2), PART);
        due("schemaOf the part then", x.schemaOf(x.open(read, 31)), 2);
    }

    private static void promise3DefaultIsZeroThen() {
        promise(3, "its default is 0 then");
        for (int kind = PLAIN; kind <= FOUR; kind++) {
            Schemabridge x = three();
            x.setKind(0, 31, kind, 0);
            due("the default after another one's", x.setDefault(0, 31, LEAST), 0);
            x.setKind(0, 31, kind, 0);
            due("the default after the same kind", x.setDefault(0, 31, LEAST), 0);
            x.setKind(0, 31, TEXT, 0);
            x.setKind(0, 31, kind, 0);
            due("the default after a kind without one", x.setDefault(0, 31, 0), 0);
            due("the default of another tag", x.setDefault(0, 30, 0), 30);
        }
    }

    private static void promise3NoSuchKind() {
        promise(3, "PLAIN, SIGNED, FOUR, TEXT or PART");
        for (int kind : new int[] {-1, 5, -5, 256, LEAST, LEAST + 4, GREATEST}) {
            refused(ARGUMENT, "kind " + kind, SchemasEdges::three, x -> x.setKind(0, 1, kind, 0));
        }
        for (int kind = PLAIN; kind <= PART; kind++) {
            due("kind " + kind, three().setKind(0, 1, kind, 0), PLAIN);
        }
    }

    private static void promise3SchemaOfAPart() {
        promise(3, "the schema of a PART");
        for (int of = 0; of <= 2; of++) {
            Schemabridge x = three();
            due("setKind", x.setKind(0, 1, PART, of), PLAIN);
            due("schemaOf", x.schemaOf(x.open(Bridges.readOf(x, 0, 10, 0), 1)), of);
        }
    }

    private static void promise3AnyNumberForOthers() {
        promise(3, "any number for other kinds");
        for (int of : new int[] {-1, 0, 3, 5, 6, LEAST, GREATEST}) {
            for (int kind = PLAIN; kind <= TEXT; kind++) {
                Schemabridge x = three();
                due("setKind with of " + of, x.setKind(0, 1, kind, of), PLAIN);
                due("kindOf", x.kindOf(0, 1), kind);
            }
        }
    }

    private static void promise3KindBefore() {
        promise(3, "Returns the kind before");
        for (int before = PLAIN; before <= PART; before++) {
            for (int kind = PLAIN; kind <= PART; kind++) {
                Schemabridge x = three();
                x.setKind(1, 31, before, 2);
                due("kind " + kind, x.setKind(1, 31, kind, 2), before);
            }
        }
    }

    private static void promise3NoKindBefore() {
        promise(3, "NONE if it had none.");
        Schemabridge x = three();
        due("a tag that never had one", x.setKind(2, 31, PLAIN, 0), NONE);
        x.dropKind(2, 31);
        due("a tag whose kind was taken away", x.setKind(2, 31, TEXT, 0), NONE);
    }

    private static void promise3NoSuchSchema() {
        promise(3, "if there is no such schema, or kind is PART and there is no schema of");
        due("the last schema", three().setKind(2, 1, PLAIN, 0), NONE);
        due("the last schema of a part", three().setKind(0, 1, PART, 2), PLAIN);
        for (int schema : new int[] {-1, 3, 5, 6, LEAST, LEAST + 1, GREATEST}) {
            refused(PLACE, "schema " + schema, SchemasEdges::three, x -> x.setKind(schema, 1, PLAIN, 0));
            refused(PLACE, "schema " + schema + " and more", SchemasEdges::three, x -> x.setKind(schema, 0, 5, 0));
            refused(PLACE, "part of schema " + schema, SchemasEdges::three, x -> x.setKind(0, 1, PART, schema));
            refused(PLACE, "part of schema " + schema + " and no tag", SchemasEdges::three, x -> x.setKind(0, 32, PART, schema));
            refused(PLACE, "schema " + schema + ", its own part", SchemasEdges::three, x -> x.setKind(schema, 1, PART, schema));
        }
        refused(PLACE, "the number 6 with six", FULL, x -> x.setKind(6, 1, PLAIN, 0));
        refused(PLACE, "a part of the number 6 with six", FULL, x -> x.setKind(0, 1, PART, 6));
    }

    private static void promise3NoSuchTag() {
        promise(3, "if tag is not 1 to 31, or there is no such kind");
        due("the first tag", three().setKind(0, 1, TEXT, 0), PLAIN);
        due("the last tag", three().setKind(0, 31, TEXT, 0), PLAIN);
        for (int tag : NO_TAGS) {
            refused(ARGUMENT, "tag " + tag, SchemasEdges::three, x -> x.setKind(0, tag, PLAIN, 0));
            refused(ARGUMENT, "tag " + tag + " of a part", SchemasEdges::three, x -> x.setKind(0, tag, PART, 0));
            refused(ARGUMENT, "tag " + tag + " and no kind", SchemasEdges::three, x -> x.setKind(0, tag, 5, 0));
        }
    }

    // ---- Promise 4

    private static void promise4TakesAway() {
        promise(4, "Takes the kind of a tag away.");
        for (int tag : TAGS) {
            Schemabridge x = three();
            x.dropKind(0, tag);
            due("kindOf", x.kindOf(0, tag), NONE);
            due("kindOf a tag beside it", x.kindOf(0, tag == 16 ? 15 : 16), PLAIN);
            due("setKind again", x.setKind(0, tag, PLAIN, 0), NONE);
            due("the default then", x.setDefault(0, tag, 1), 0);
        }
        Schemabridge x = three();
        x.setKind(0, 1, PART, 1);
        int read = Bridges.readOf(x, 0, 10, 0);
        x.dropKind(0, 1);
        due("open of what is no PART any more", Checks.thrownBy(() -> x.open(read, 1)), "IllegalArgumentException");
    }

    private static void promise4KindBefore() {
        promise(4, "Returns the kind before");
        for (int kind = PLAIN; kind <= PART; kind++) {
            Schemabridge x = three();
            x.setKind(0, 31, kind, 0);
            due("dropKind", x.dropKind(0, 31), kind);
        }
    }

    private static void promise4NoKindBefore() {
        promise(4, "NONE if it had none.");
        Schemabridge x = three();
        due("of a tag that never had one", x.dropKind(2, 31), NONE);
        x.dropKind(0, 31);
        due("of a tag whose kind was taken away", x.dropKind(0, 31), NONE);
    }

    private static void promise4NoSuchSchema() {
        promise(4, "if there is no such schema");
        due("the last schema", three().dropKind(2, 1), NONE);
        for (int schema : new int[] {-1, 3, 5, 6, LEAST, LEAST + 1, GREATEST}) {
            refused(PLACE, "schema " + schema, SchemasEdges::three, x -> x.dropKind(schema, 1));
            refused(PLACE, "schema " + schema + " and no tag", SchemasEdges::three, x -> x.dropKind(schema, 0));
        }
        refused(PLACE, "the number 6 with six", FULL, x -> x.dropKind(6, 1));
    }

    private static void promise4NoSuchTag() {
        promise(4, "if tag is not 1 to 31");
        due("the first tag", three().dropKind(0, 1), PLAIN);
        due("the last tag", three().dropKind(0, 31), PLAIN);
        for (int tag : NO_TAGS) {
            refused(ARGUMENT, "tag " + tag, SchemasEdges::three, x -> x.dropKind(0, tag));
        }
    }

    // ---- Promise 5

    private static void promise5Sets() {
        promise(5, "Sets the default of a tag.");
        for (int tag : TAGS) {
            Schemabridge x = three();
            x.setDefault(0, tag, 77);
            due("get", x.get(x.create(0), tag), 77);
            due("get of a tag beside it", x.get(0, tag == 16 ? 15 : 16), tag == 16 ? 15 : 16);
        }
    }

    private static void promise5AnyNumber() {
        promise(5, "any number");
        for (int kind = PLAIN; kind <= FOUR; kind++) {
            for (int value : new int[] {LEAST, LEAST + 1, -1, 0, 1, GREATEST}) {
                Schemabridge x = three();
                x.setKind(0, 31, kind, 0);
                x.setDefault(0, 31, value);
                due("get", x.get(x.create(0), 31), value);
                x.set(0, 31, value);
                due("write of a field that has it", x.write(0), 0);
            }
        }
    }

    private static void promise5DefaultBefore() {
        promise(5, "Returns the default before.");
        Schemabridge x = three();
        int before = 31;
        for (int value : new int[] {LEAST, GREATEST, -1, -1, 0}) {
            due("setDefault", x.setDefault(0, 31, value), before);
            before = value;
        }
    }

    private static void promise5NoSuchSchema() {
        promise(5, "Throws `IndexOutOfBoundsException` if there is no such schema");
        due("the last schema", Checks.thrownBy(() -> three().setDefault(2, 1, 1)), "IllegalStateException");
        for (int schema : new int[] {-1, 3, 5, 6, LEAST, LEAST + 1, GREATEST}) {
            refused(PLACE, "schema " + schema, SchemasEdges::three, x -> x.setDefault(schema, 1, 1));
            refused(PLACE, "schema " + schema + " and no tag", SchemasEdges::three, x -> x.setDefault(schema, 32, 1));
        }
        refused(PLACE, "the number 6 with six", FULL, x -> x.setDefault(6, 1, 1));
    }

    private static void promise5NoSuchTag() {
        promise(5, "if tag is not 1 to 31");
        due("the first tag", three().setDefault(0, 1, 9), 1);
        due("the last tag", three().setDefault(0, 31, 9), 31);
        for (int tag : NO_TAGS) {
            refused(ARGUMENT, "tag " + tag, SchemasEdges::three, x -> x.setDefault(0, tag, 1));
        }
    }

    private static void promise5KindWithoutDefault() {
        promise(5, "if the kind of the tag is not PLAIN, SIGNED or FOUR");
        refused(STATE, "TEXT", BUSY, x -> x.setDefault(0, 4, 1));
        refused(STATE, "PART", BUSY, x -> x.setDefault(0, 5, 0));
        refused(STATE, "no kind", BUSY, x -> x.setDefault(0, 6, 1));
        refused(STATE, "no kind for the last tag", BUSY, x -> x.setDefault(1, 31, 1));
        refused(STATE, "a kind that was taken away", () -> {
            Schemabridge x = three();
            x.dropKind(0, 31);
            return x;
        }, x -> x.setDefault(0, 31, 31));
        for (int tag = 1; tag <= 3; tag++) {
            due("kind " + (tag - 1), Bridges.usual(1).setDefault(0, tag, 1), 0);
        }
    }

    // ---- Promise 6

    private static void promise6Kind() {
        promise(6, "Returns the kind of a tag");
        for (int kind = PLAIN; kind <= PART; kind++) {
            Schemabridge x = three();
            x.setKind(2, 31, kind, 1);
            due("kindOf", x.kindOf(2, 31), kind);
            due("kindOf asked again", x.kindOf(2, 31), kind);
        }
    }

    private static void promise6NoKind() {
        promise(6, "NONE if it has none.");
        Schemabridge x = three();
        due("a tag without one", x.kindOf(0, 3), NONE);
        due("the first tag of the last schema", x.kindOf(2, 1), NONE);
        due("the last tag of the last schema", x.kindOf(2, 31), NONE);
    }

    private static void promise6NoSuchSchema() {
        promise(6, "if there is no such schema");
        for (int schema : new int[] {-1, 3, 5, 6, LEAST, LEAST + 1, GREATEST}) {
            refused(PLACE, "schema " + schema, SchemasEdges::three, x -> x.kindOf(schema, 1));
            refused(PLACE, "schema " + schema + " and no tag", SchemasEdges::three, x -> x.kindOf(schema, 0));
        }
        refused(PLACE, "the number 6 with six", FULL, x -> x.kindOf(6, 1));
    }

    private static void promise6NoSuchTag() {
        promise(6, "if tag is not 1 to 31");
        due("the first tag", three().kindOf(0, 1), PLAIN);
        due("the last tag", three().kindOf(0, 31), PLAIN);
        for (int tag : NO_TAGS) {
            refused(ARGUMENT, "tag " + tag, SchemasEdges::three, x -> x.kindOf(0, tag));
        }
    }

    // ---- Promise 7

    private static void promise7LeastTag() {
        promise(7, "Returns the least tag by which a schema cannot take the place of another one.");
        Schemabridge x = Bridges.withSchemas(2);
        for (int tag = 31; tag >= 1; tag--) {
            x.setKind(0, tag, PLAIN, 0);
            x.setKind(1, tag, TEXT, 0);
            due("conflict from tag " + tag + " on", x.conflict(0, 1), tag);
        }
    }

    private static void promise7PairsThatDiffer() {
        promise(7, "if both have kinds for it, one of these is PLAIN, SIGNED or FOUR, and the other one is not the same");
        for (int tag : TAGS) {
            for (int one = NONE; one <= PART; one++) {
                for (int two = NONE; two <= PART; two++) {
                    Schemabridge x = Bridges.withSchemas(2);
                    give(x, 0, tag, one, 0);
                    give(x, 1, tag, two, 0);
                    boolean bothHaveKinds = one != NONE && two != NONE;
                    boolean isOneInt = one >= PLAIN && one <= FOUR || two >= PLAIN && two <= FOUR;
                    int due = bothHaveKinds && isOneInt && one != two ? tag : NONE;
                    due("conflict of " + one + " by " + two, x.conflict(0, 1), due);
                }
            }
        }
    }

    private static void give(Schemabridge x, int schema, int tag, int kind, int of) {
        if (kind != NONE) {
            x.setKind(schema, tag, kind, of);
        }
    }

    private static void promise7DefaultsAreNoDifference() {
        promise(7, "and the other one is not the same");
        Schemabridge x = Bridges.withSchemas(2);
        x.setKind(0, 1, SIGNED, 0);
        x.setKind(1, 1, SIGNED, 0);
        x.setDefault(1, 1, LEAST);
        due("conflict", x.conflict(0, 1), NONE);
    }

    private static void promise7PairsLeadByParts() {
        promise(7, "A pair leads to another one by a tag for which both have PART: to the pair of the schemas of these parts");
        for (int tag : TAGS) {
            for (int one = NONE; one <= PART; one++) {
                for (int two = TEXT; two <= PART; two++) {
                    // The schemas 2 and 3 differ at tag 31.
                    Schemabridge x = Bridges.withSchemas(4);
                    x.setKind(2, 31, FOUR, 0);
                    x.setKind(3, 31, SIGNED, 0);
                    give(x, 0, tag, one, 2);
                    give(x, 1, tag, two, 3);
                    boolean isOneInt = one >= PLAIN && one <= FOUR;
                    int due = isOneInt || one == PART && two == PART ? tag : NONE;
                    due("conflict of " + one + " by " + two, x.conflict(0, 1), due);
                }
            }
        }
    }

    private static void promise7InTheSameOrder() {
        promise(7, "in the same order");
        // (0, 1) leads to (2, 3), which leads to (0, 1) the other way round; that leads to (4, 5), which differs.
        Schemabridge x = Bridges.withSchemas(6);
        x.setKind(0, 1, PART, 2);
        x.setKind(1, 1, PART, 3);
        x.setKind(2, 1, PART, 1);
        x.setKind(3, 1, PART, 0);
        x.setKind(0, 2, PART, 5);
        x.setKind(1, 2, PART, 4);
        x.setKind(4, 9, PLAIN, 0);
        x.setKind(5, 9, FOUR, 0);
        due("conflict of (0, 1)", x.conflict(0, 1), 1);
        due("conflict of (1, 0)", x.conflict(1, 0), 1);
        due("conflict of (2, 3)", x.conflict(2, 3), 1);
        // Now (0, 1) leads by tag 1 to itself alone, in the same order, and only by tag 2 to (5, 4).
        x.setKind(2, 1, PART, 0);
        x.setKind(3, 1, PART, 1);
        due("conflict of (0, 1) in a ring", x.conflict(0, 1), 2);
        due("conflict of (1, 0) in a ring", x.conflict(1, 0), 2);
        due("conflict of (3, 2) in a ring", x.conflict(3, 2), 1);
    }

    private static void promise7ReasonAtItself() {
        promise(7, "A tag is a reason if the pair that is asked about differs at it");
        for (int tag : TAGS) {
            Schemabridge x = Bridges.withSchemas(2);
            x.setKind(0, tag, PLAIN, 0);
            x.setKind(1, tag, SIGNED, 0);
            due("conflict", x.conflict(0, 1), tag);
            due("conflict the other way round", x.conflict(1, 0), tag);
            due("conflict with itself", x.conflict(0, 0), NONE);
        }
    }

    private static void promise7ReasonByOneStep() {
        promise(7, "or leads by it to a pair that differs at some tag");
        for (int tag : TAGS) {
            Schemabridge x = Bridges.withSchemas(4);
            x.setKind(0, 7, PART, 2);
            x.setKind(1, 7, PART, 3);
            x.setKind(2, tag, PLAIN, 0);
            x.setKind(3, tag, FOUR, 0);
            due("conflict of the pair that leads to it", x.conflict(0, 1), 7);
            due("conflict of the pair that differs", x.conflict(2, 3), tag);
            x.setKind(3, tag, PLAIN, 0);
            due("conflict when it differs no more", x.conflict(0, 1), NONE);
        }
    }

    /** Cycles of 2 and 3 schemas: by tag 1 each of six pairs leads to the next, and the last one to the first. */
    private static Schemabridge cycles() {
        Schemabridge x = Bridges.withSchemas(6);
        int[] next = {1, 0, 3, 4, 2};
        for (int schema = 0; schema < 5; schema++) {
            x.setKind(schema, 1, PART, next[schema]);
        }
        return x;
    }

    private static void promise7ReasonOverOthers() {
        promise(7, "or that leads to such a pair over any number of others");
        // (0, 2), (1, 3), (0, 4), (1, 2), (0, 3), (1, 4): only the last one differs, where 1 and 4 alone have tag 31.
        int[][] ring = {{0, 2}, {1, 3}, {0, 4}, {1, 2}, {0, 3}, {1, 4}};
        Schemabridge x = cycles();
        for (int[] pair : ring) {
            due("conflict of " + pair[0] + " by " + pair[1] + " without a difference", x.conflict(pair[0], pair[1]), NONE);
        }
        x.setKind(1, 31, PLAIN, 0);
        x.setKind(4, 31, SIGNED, 0);
        for (int[] pair : ring) {
            int due = pair[0] == 1 && pair[1] == 4 ? 31 : 1;
            due("conflict of " + pair[0] + " by " + pair[1], x.conflict(pair[0], pair[1]), due);
        }
        due("conflict the other way round", x.conflict(2, 0), 1);
        x.dropKind(4, 31);
        due("conflict when nothing differs any more", x.conflict(0, 2), NONE);
    }

    private static void promise7ReasonOverAllPairs() {
        promise(7, "over any number of others");
        // By tags 1 and 2 each pair of two schemas is reached from each other one; (5, 0) alone and (0, 5) differ.
        Schemabridge x = Bridges.withSchemas(6);
        int[] turned = {1, 2, 3, 4, 5, 0};
        int[] swapped = {1, 0, 2, 3, 4, 5};
        for (int schema = 0; schema < 6; schema++) {
            x.setKind(schema, 1, PART, swapped[schema]);
            x.setKind(schema, 2, PART, turned[schema]);
        }
        for (int one = 0; one < 6; one++) {
            for (int two = 0; two < 6; two++) {
                due("conflict of " + one + " by " + two + " without a difference", x.conflict(one, two), NONE);
            }
        }
        x.setKind(5, 31, PLAIN, 0);
        x.setKind(0, 31, FOUR, 0);
        // By tag 1 a pair of two of 2 to 5 leads to itself alone, so that tag 2 is its reason.
        for (int one = 0; one < 6; one++) {
            for (int two = 0; two < 6; two++) {
                boolean isStill = one >= 2 && two >= 2;
                due("conflict of " + one + " by " + two, x.conflict(one, two), one == two ? NONE : isStill ? 2 : 1);
            }
        }
    }

    private static void promise7NeverSuchAPair() {
        promise(7, "but the pair that is asked about is never such a pair");
        // (0, 1) differs at 31, and by tag 1 it leads to itself, by tag 2 to (2, 3), and that by tag 4 back to it.
        Schemabridge x = Bridges.withSchemas(4);
        x.setKind(0, 31, PLAIN, 0);
        x.setKind(1, 31, SIGNED, 0);
        x.setKind(0, 1, PART, 0);
        x.setKind(1, 1, PART, 1);
        x.setKind(0, 2, PART, 2);
        x.setKind(1, 2, PART, 3);
        x.setKind(2, 4, PART, 0);
        x.setKind(3, 4, PART, 1);
        due("conflict", x.conflict(0, 1), 31);
        due("conflict of the pair that leads to it", x.conflict(2, 3), 4);
    }

    private static void promise7NeverOneOfTheOthers() {
        promise(7, "nor one of those others");
        // (0, 1) leads by tag 1 to (2, 3), that by tag 1 back to it, and it by tag 5 to a pair that differs in the end.
        Schemabridge x = Bridges.withSchemas(4);
        x.setKind(0, 1, PART, 2);
        x.setKind(1, 1, PART, 3);
        x.setKind(2, 1, PART, 0);
        x.setKind(3, 1, PART, 1);
        x.setKind(0, 5, PART, 3);
        x.setKind(1, 5, PART, 2);
        due("conflict without a difference", x.conflict(0, 1), NONE);
        x.addSchema();
        x.addSchema();
        x.setKind(0, 5, PART, 4);
        x.setKind(1, 5, PART, 5);
        x.setKind(4, 9, PLAIN, 0);
        x.setKind(5, 9, TEXT, 0);
        due("conflict over itself", x.conflict(0, 1), 5);
        due("conflict of the pair between", x.conflict(2, 3), 1);
        // By a tag that leads to itself at once it is not gone over either.
        x.setKind(0, 1, PART, 0);
        x.setKind(1, 1, PART, 1);
        due("conflict over itself at once", x.conflict(0, 1), 5);
        due("conflict of a pair that leads there", x.conflict(2, 3), 1);
    }

    private static void promise7TheOlderOne() {
        promise(7, "the older one");
        // The pair (0, 1) leads to (2, 3), and (1, 0) to (3, 2); both differ, and the pairs of one schema do not.
        Schemabridge x = Bridges.withSchemas(4);
        x.setKind(0, 3, PART, 2);
        x.setKind(1, 3, PART, 3);
        x.setKind(2, 1, PLAIN, 0);
        x.setKind(3, 1, FOUR, 0);
        due("conflict", x.conflict(0, 1), 3);
        due("conflict of the older one by itself", x.conflict(0, 0), NONE);
        promise(7, "the one that would take its place");
        due("conflict the other way round", x.conflict(1, 0), 3);
        due("conflict of the other one by itself", x.conflict(1, 1), NONE);
    }

    private static void promise7TheLeastReason() {
        promise(7, "Returns the least tag that is a reason");
        for (int tag = 1; tag <= 30; tag++) {
            // Tag 31 differs at once, the tag of the turn leads to a pair that does.
            Schemabridge x = Bridges.withSchemas(4);
            x.setKind(0, 31, PLAIN, 0);
            x.setKind(1, 31, TEXT, 0);
            x.setKind(2, 31, PLAIN, 0);
            x.setKind(3, 31, TEXT, 0);
            due("conflict at tag 31", x.conflict(0, 1), 31);
            x.setKind(0, tag, PART, 2);
            x.setKind(1, tag, PART, 3);
            due("conflict by tag " + tag, x.conflict(0, 1), tag);
            x.setKind(1, tag, PART, 2);
            due("conflict by a tag that leads to no difference", x.conflict(0, 1), 31);
        }
    }

    private static void promise7NoReason() {
        promise(7, "NONE if there is none.");
        Schemabridge x = Bridges.withSchemas(6);
        for (int one = 0; one < 6; one++) {
            for (int two = 0; two < 6; two++) {
                due("conflict without kinds", x.conflict(one, two), NONE);
            }
        }
        for (int tag = 1; tag <= 31; tag++) {
            x.setKind(0, tag, tag % 5, 0);
            x.setKind(5, tag, tag % 5, 5);
        }
        due("conflict with the same kinds for all tags", x.conflict(0, 5), NONE);
        due("conflict with no kind at all", x.conflict(0, 1), NONE);
    }

    private static void promise7NoSuchSchema() {
        promise(7, "if there is no such schema, or no schema by");
        due("the last schema", three().conflict(0, 2), NONE);
        due("by the last schema", three().conflict(2, 2), NONE);
        for (int schema : new int[] {-1, 3, 5, 6, LEAST, LEAST + 1, GREATEST}) {
            refused(PLACE, "schema " + schema, SchemasEdges::three, x -> x.conflict(schema, 0));
            refused(PLACE, "by schema " + schema, SchemasEdges::three, x -> x.conflict(0, schema));
            refused(PLACE, "schema " + schema + " by itself", SchemasEdges::three, x -> x.conflict(schema, schema));
        }
        refused(PLACE, "the number 6 with six", FULL, x -> x.conflict(6, 0));
        refused(PLACE, "by the number 6 with six", FULL, x -> x.conflict(0, 6));
    }
}
