/** Promises 1 to 7: a new object, and the schemas. */
final class SchemasTest {
    private static final int LEAST = Integer.MIN_VALUE, GREATEST = Integer.MAX_VALUE;
    private static final Checks CHECKS = new Checks("SchemasTest");

    public static void main(String[] args) {
        promise1NewObject();
        promise2AddSchema();
        promise3SetKind();
        promise3SetKindThrows();
        promise4DropKind();
        promise5SetDefault();
        promise6KindOf();
        promise7ConflictAtOneTag();
        promise7ConflictOverParts();
        promise7ConflictNeverOverTheAskedPair();
        promise7ConflictOverLongWays();
        CHECKS.end();
    }

    private static Schemabridge with(int schemas) {
        Schemabridge bridge = new Schemabridge();
        for (int made = 0; made < schemas; made++) {
            bridge.addSchema();
        }
        return bridge;
    }

    private static void promise1NewObject() {
        Schemabridge x = new Schemabridge();
        CHECKS.due("length()", x.length(), 0);
        CHECKS.due("fault()", x.fault(), 0);
        CHECKS.due("faultAt()", x.faultAt(), Schemabridge.NONE);
        CHECKS.thrown("kindOf(0, 1)", Checks.PLACE, () -> x.kindOf(0, 1));
        CHECKS.thrown("weight(0)", Checks.PLACE, () -> x.weight(0));
        CHECKS.due("addSchema()", x.addSchema(), 0);
        CHECKS.due("create(0)", x.create(0), 0);
        Schemabridge y = new Schemabridge();
        CHECKS.thrown("another object's kindOf(0, 1)", Checks.PLACE, () -> y.kindOf(0, 1));
    }

    private static void promise2AddSchema() {
        Schemabridge x = new Schemabridge();
        for (int number = 0; number < 6; number++) {
            CHECKS.due("addSchema()", x.addSchema(), number);
            for (int tag = 1; tag <= 31; tag++) {
                CHECKS.due("kindOf", x.kindOf(number, tag), Schemabridge.NONE);
            }
        }
        CHECKS.thrown("addSchema() of a seventh", Checks.STATE, () -> x.addSchema());
        CHECKS.thrown("addSchema() of a seventh again", Checks.STATE, () -> x.addSchema());
        CHECKS.due("kindOf(5, 1)", x.kindOf(5, 1), Schemabridge.NONE);
        CHECKS.thrown("kindOf(6, 1)", Checks.PLACE, () -> x.kindOf(6, 1));
    }

    private static void promise3SetKind() {
        Schemabridge x = with(2);
        for (int tag : new int[] {1, 15, 16, 31}) {
            int before = Schemabridge.NONE;
            for (int kind = 0; kind <= 4; kind++) {
                CHECKS.due("setKind", x.setKind(0, tag, kind, 1), before);
                CHECKS.due("kindOf", x.kindOf(0, tag), kind);
                CHECKS.due("kindOf of the other schema", x.kindOf(1, tag), Schemabridge.NONE);
                before = kind;
            }
        }
        x.setKind(0, 2, Schemabridge.PLAIN, LEAST);
        x.setDefault(0, 2, 9);
        x.setKind(0, 2, Schemabridge.PLAIN, GREATEST);
        CHECKS.due("the default after the same kind again", x.setDefault(0, 2, 1), 0);
        x.create(0);
        x.create(1);
        x.setKind(0, 3, Schemabridge.PART, 0);
        x.setKind(0, 3, Schemabridge.PART, 1);
        CHECKS.due("setPart with the later schema of the part", x.setPart(0, 3, 1), 0);
        CHECKS.thrown("setPart with the earlier one", Checks.ARGUMENT, () -> x.setPart(0, 3, 0));
    }

    private static void promise3SetKindThrows() {
        Schemabridge x = with(2);
        x.setKind(0, 1, Schemabridge.SIGNED, 0);
        x.setDefault(0, 1, 5);
        for (int schema : new int[] {-1, 2, 6, LEAST, GREATEST}) {
            CHECKS.thrown("setKind of schema " + schema, Checks.PLACE, () -> x.setKind(schema, 0, 9, 0));
            CHECKS.thrown("setKind of a part " + schema, Checks.PLACE, () -> x.setKind(0, 0, Schemabridge.PART, schema));
            CHECKS.thrown("setKind of a part " + schema, Checks.PLACE, () -> x.setKind(0, 1, Schemabridge.PART, schema));
        }
        for (int tag : new int[] {0, 32, -1, LEAST, GREATEST}) {
            CHECKS.thrown("setKind of tag " + tag, Checks.ARGUMENT, () -> x.setKind(0, tag, Schemabridge.PLAIN, 0));
            CHECKS.thrown("setKind of tag " + tag, Checks.ARGUMENT, () -> x.setKind(0, tag, Schemabridge.PART, 1));
        }
        for (int kind : new int[] {-1, 5, LEAST, GREATEST}) {
            CHECKS.thrown("setKind of kind " + kind, Checks.ARGUMENT, () -> x.setKind(0, 1, kind, 0));
        }
        CHECKS.due("the kind that stays", x.kindOf(0, 1), Schemabridge.SIGNED);
        CHECKS.due("the default that stays", x.setDefault(0, 1, 0), 5);
    }

    private static void promise4DropKind() {
        Schemabridge x = with(1);
        x.setKind(0, 31, Schemabridge.FOUR, 0);
        x.setDefault(0, 31, 8);
        CHECKS.due("dropKind", x.dropKind(0, 31), Schemabridge.FOUR);
        CHECKS.due("kindOf", x.kindOf(0, 31), Schemabridge.NONE);
        CHECKS.due("dropKind again", x.dropKind(0, 31), Schemabridge.NONE);
        CHECKS.due("setKind", x.setKind(0, 31, Schemabridge.FOUR, 0), Schemabridge.NONE);
        CHECKS.due("the default after", x.setDefault(0, 31, 1), 0);
        x.setKind(0, 1, Schemabridge.PART, 0);
        x.create(0);
        CHECKS.due("dropKind of a PART", x.dropKind(0, 1), Schemabridge.PART);
        CHECKS.thrown("setPart after", Checks.ARGUMENT, () -> x.setPart(0, 1, 0));
        for (int schema : new int[] {-1, 1, LEAST, GREATEST}) {
            CHECKS.thrown("dropKind of schema " + schema, Checks.PLACE, () -> x.dropKind(schema, 0));
        }
        for (int tag : new int[] {0, 32, -1, LEAST, GREATEST}) {
            CHECKS.thrown("dropKind of tag " + tag, Checks.ARGUMENT, () -> x.dropKind(0, tag));
        }
        CHECKS.due("the kind that stays", x.kindOf(0, 31), Schemabridge.FOUR);
    }

    private static void promise5SetDefault() {
        Schemabridge x = with(1);
        for (int kind = 0; kind <= 2; kind++) {
            int tag = kind + 1;
            x.setKind(0, tag, kind, 0);
            CHECKS.due("setDefault", x.setDefault(0, tag, LEAST), 0);
            CHECKS.due("setDefault", x.setDefault(0, tag, -7), LEAST);
            CHECKS.due("setDefault", x.setDefault(0, tag, GREATEST), -7);
            x.create(0);
            CHECKS.due("get", x.get(0, tag), GREATEST);
        }
        x.setKind(0, 4, Schemabridge.TEXT, 0);
        x.setKind(0, 5, Schemabridge.PART, 0);
        for (int tag : new int[] {4, 5, 6}) {
            CHECKS.thrown("setDefault of tag " + tag, Checks.STATE, () -> x.setDefault(0, tag, 1));
        }
        for (int tag : new int[] {0, 32, -1, LEAST, GREATEST}) {
            CHECKS.thrown("setDefault of tag " + tag, Checks.ARGUMENT, () -> x.setDefault(0, tag, 1));
        }
        for (int schema : new int[] {-1, 1, LEAST, GREATEST}) {
            CHECKS.thrown("setDefault of schema " + schema, Checks.PLACE, () -> x.setDefault(schema, 0, 1));
        }
        x.setKind(0, 4, Schemabridge.PLAIN, 0);
        CHECKS.due("a default after all that", x.setDefault(0, 4, 1), 0);
    }

    private static void promise6KindOf() {
        Schemabridge x = with(2);
        x.setKind(1, 31, Schemabridge.TEXT, 0);
        CHECKS.due("kindOf(1, 31)", x.kindOf(1, 31), Schemabridge.TEXT);
        CHECKS.due("kindOf(1, 30)", x.kindOf(1, 30), Schemabridge.NONE);
        CHECKS.due("kindOf(0, 31)", x.kindOf(0, 31), Schemabridge.NONE);
        for (int schema : new int[] {-1, 2, LEAST, GREATEST}) {
            CHECKS.thrown("kindOf of schema " + schema, Checks.PLACE, () -> x.kindOf(schema, 0));
        }
        for (int tag : new int[] {0, 32, -1, LEAST, GREATEST}) {
            CHECKS.thrown("kindOf of tag " + tag, Checks.ARGUMENT, () -> x.kindOf(0, tag));
        }
    }

    private static void promise7ConflictAtOneTag() {
        for (int one = -1; one <= 4; one++) {
            for (int two = -1; two <= 4; two++) {
                Schemabridge x = with(2);
                if (one >= 0) {
                    x.setKind(0, 31, one, 0);
                }
                if (two >= 0) {
                    x.setKind(1, 31, two, 1);
                }
                boolean bothBytes = one >= 3 && two >= 3;
                boolean differ = one >= 0 && two >= 0 && one != two && !bothBytes;
                CHECKS.due("conflict of " + one + " by " + two, x.conflict(0, 1), differ ? 31 : Schemabridge.NONE);
                CHECKS.due("conflict with itself", x.conflict(0, 0), Schemabridge.NONE);
            }
        }
        Schemabridge x = with(2);
        for (int schema : new int[] {-1, 2, LEAST, GREATEST}) {
            CHECKS.thrown("conflict of " + schema, Checks.PLACE, () -> x.conflict(schema, 0));
            CHECKS.thrown("conflict by " + schema, Checks.PLACE, () -> x.conflict(0, schema));
        }
        x.setKind(0, 5, Schemabridge.PLAIN, 0);
        x.setKind(1, 5, Schemabridge.PLAIN, 0);
        x.setDefault(0, 5, 3);
        CHECKS.due("conflict with other defaults", x.conflict(0, 1), Schemabridge.NONE);
    }

    private static void promise7ConflictOverParts() {
        Schemabridge x = with(4);
        x.setKind(0, 9, Schemabridge.PART, 2);
        x.setKind(1, 9, Schemabridge.PART, 3);
        CHECKS.due("conflict of like parts", x.conflict(0, 1), Schemabridge.NONE);
        x.setKind(2, 4, Schemabridge.PLAIN, 0);
        x.setKind(3, 4, Schemabridge.TEXT, 0);
        CHECKS.due("conflict of differing parts", x.conflict(0, 1), 9);
        CHECKS.due("conflict the other way", x.conflict(1, 0), 9);
        CHECKS.due("conflict of the parts", x.conflict(2, 3), 4);
        x.setKind(1, 9, Schemabridge.TEXT, 0);
        CHECKS.due("conflict of a PART by a TEXT", x.conflict(0, 1), Schemabridge.NONE);
        x.setKind(1, 9, Schemabridge.PART, 3);
        x.setKind(0, 12, Schemabridge.PLAIN, 0);
        x.setKind(1, 12, Schemabridge.SIGNED, 0);
        CHECKS.due("conflict with a later one that differs itself", x.conflict(0, 1), 9);
        x.setKind(0, 8, Schemabridge.PART, 2);
        x.setKind(1, 8, Schemabridge.PART, 3);
        CHECKS.due("conflict with two tags to the same pair", x.conflict(0, 1), 8);
        x.setKind(0, 7, Schemabridge.FOUR, 0);
        x.setKind(1, 7, Schemabridge.PLAIN, 0);
        CHECKS.due("conflict with an earlier one that differs itself", x.conflict(0, 1), 7);
    }

    private static void promise7ConflictNeverOverTheAskedPair() {
        Schemabridge x = with(4);
        // 0 and 1 lead to themselves by 1, to 2 and 3 by 2, and those back to them by 1.
        x.setKind(0, 1, Schemabridge.PART, 0);
        x.setKind(1, 1, Schemabridge.PART, 1);
        x.setKind(0, 2, Schemabridge.PART, 2);
        x.setKind(1, 2, Schemabridge.PART, 3);
        x.setKind(2, 1, Schemabridge.PART, 0);
        x.setKind(3, 1, Schemabridge.PART, 1);
        x.setKind(0, 30, Schemabridge.PLAIN, 0);
        x.setKind(1, 30, Schemabridge.FOUR, 0);
        CHECKS.due("conflict back to the asked pair", x.conflict(0, 1), 30);
        CHECKS.due("conflict of the pair that leads there", x.conflict(2, 3), 1);
        // The pair the other way round is another pair.
        x.setKind(0, 3, Schemabridge.PART, 1);
        x.setKind(1, 3, Schemabridge.PART, 0);
        CHECKS.due("conflict to the pair the other way round", x.conflict(0, 1), 3);
        x.dropKind(0, 3);
        // Beyond the asked pair stands a pair that differs; 2 leads to it, 1 only by the asked pair.
        x.dropKind(0, 30);
        x.setKind(2, 5, Schemabridge.PLAIN, 0);
        x.setKind(3, 5, Schemabridge.TEXT, 0);
        CHECKS.due("conflict by 2 and not by 1", x.conflict(0, 1), 2);
    }

    private static void promise7ConflictOverLongWays() {
        Schemabridge x = with(6);
        // Each schema leads to the next by tag 1: (0, 1), (1, 2), (2, 3), (3, 4), (4, 5), (5, 0), (0, 1).
        for (int schema = 0; schema < 6; schema++) {
            x.setKind(schema, 1, Schemabridge.PART, (schema + 1) % 6);
        }
        CHECKS.due("conflict in a ring", x.conflict(0, 1), Schemabridge.NONE);
        x.setKind(5, 31, Schemabridge.PLAIN, 0);
        CHECKS.due("conflict with one kind alone", x.conflict(0, 1), Schemabridge.NONE);
        x.setKind(0, 31, Schemabridge.PART, 3);
        CHECKS.due("conflict at the far end of a ring", x.conflict(0, 1), 1);
        CHECKS.due("conflict at once", x.conflict(5, 0), 31);
        CHECKS.due("conflict with itself", x.conflict(3, 3), Schemabridge.NONE);
        // By tags 2 and 3 the pair (0, 1) leads to (2, 2) and (3, 4), of which only the second leads to (5, 0).
        x.dropKind(0, 1);
        x.setKind(0, 2, Schemabridge.PART, 2);
        x.setKind(1, 2, Schemabridge.PART, 2);
        CHECKS.due("conflict by a part that stays the same", x.conflict(0, 1), Schemabridge.NONE);
        x.setKind(0, 3, Schemabridge.PART, 3);
        x.setKind(1, 3, Schemabridge.PART, 4);
        CHECKS.due("conflict by the second way", x.conflict(0, 1), 3);
    }
}
