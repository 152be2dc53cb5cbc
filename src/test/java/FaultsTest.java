/** Each fault with its place, the edges next to it, and the order in which faults are looked for. */
public final class FaultsTest {
    public static void main(String[] args) {
        marks();
        ends();
        counts();
        abilitiesAndFlags();
        instructionCounts();
        types();
        operations();
        bytesBehind();
        structureNumbers();
        ownStructures();
        fieldNumbers();
        localNumbers();
        functionNumbers();
        elementNumbers();
        branches();
        circles();
        order();
        Check.end();
    }

    private static void fault(String name, int why, int place, byte[] row) {
        CodeTables x = Bytes.typed(row);
        Check.due(name + ": read()", x.read(), -why);
        Check.due(name + ": place()", x.place(), place);
        Check.due(name + ": told(0)", x.told(0), CodeTables.BAD);
        Check.due(name + ": write()", x.write(), CodeTables.BAD);
    }

    private static void fine(String name, byte[] row) {
        CodeTables x = Bytes.typed(row);
        Check.due(name + ": read()", x.read(), 0);
        Check.due(name + ": place()", x.place(), row.length);
        Check.due(name + ": write()", x.write(), row.length);
    }

    private static void marks() {
        for (int i = 0; i < 4; i++) {
            fault("mark, byte " + i, 1, i, Bytes.with(Sample.bytes(), i, 0));
            fault("mark, byte " + i + " at the end", 1, i, Bytes.cut(Bytes.with(Sample.bytes(), i, 50), i + 1));
        }
        fault("mark, two wrong bytes", 1, 1, Bytes.of(82, 0, 77, 0));
    }

    private static void ends() {
        byte[] row = Sample.bytes();
        for (int length = 0; length < row.length; length++) {
            fault("the sample cut to " + length, 2, length, Bytes.cut(row, length));
        }
        fault("half a count of instructions, too many by its half", 2, 16, Bytes.cut(Bytes.code(0x1000), 16));
    }

    private static void counts() {
        fine("32 structures", Bytes.module(Bytes.of(32), Bytes.repeated(32, 0, 1, 1), Bytes.of(0, 0, 0, 0)));
        fault("33 structures", 3, 6, Bytes.module(Bytes.of(33), Bytes.repeated(33, 0, 1, 1), Bytes.of(0, 0, 0, 0)));
        fault("255 structures", 3, 6, Bytes.module(Bytes.of(255)));
        fine("16 fields", Bytes.module(Bytes.of(1, 0, 16), Bytes.repeated(16, 2), Bytes.of(0, 0, 0, 0)));
        fault("17 fields", 3, 8, Bytes.module(Bytes.of(1, 0, 17), Bytes.repeated(17, 2), Bytes.of(0, 0, 0, 0)));
        fault("0 fields", 3, 8, Bytes.module(Bytes.of(1, 0, 0, 0, 0, 0, 0)));
        fine("32 foreign structures", Bytes.module(Bytes.of(0, 32), Bytes.repeated(32, 0, 1, 2, 3), Bytes.of(0, 0, 0)));
        fault("33 foreign structures", 3, 7, Bytes.module(Bytes.of(0, 33), Bytes.repeated(33, 0, 1, 2, 3), Bytes.of(0, 0, 0)));
        fine("32 foreign functions", Bytes.module(Bytes.of(0, 0, 32), Bytes.repeated(32, 0, 1, 2, 3, 0, 0), Bytes.of(0, 0)));
        fault("33 foreign functions", 3, 8, Bytes.module(Bytes.of(0, 0, 33), Bytes.repeated(33, 0, 1, 2, 3, 0, 0), Bytes.of(0, 0)));
        fine("32 element types", Bytes.module(Bytes.of(0, 0, 0, 32), Bytes.repeated(32, 5), Bytes.of(0)));
        fault("33 element types", 3, 9, Bytes.module(Bytes.of(0, 0, 0, 33), Bytes.repeated(33, 5), Bytes.of(0)));
        fine("64 functions", Bytes.module(Bytes.of(0, 0, 0, 0, 64), Bytes.repeated(64, 0, 0, 0, 0, 0, 1, 1)));
        fault("65 functions", 3, 10, Bytes.module(Bytes.of(0, 0, 0, 0, 65), Bytes.repeated(65, 0, 0, 0, 0, 0, 1, 1)));
        listCounts();
        fine("a new vector of 64", withElements(52, 0, 64));
        fault("a new vector of 65", 3, 20, withElements(52, 0, 65));
    }

    private static void listCounts() {
        byte[] eight = Bytes.repeated(8, 8, 3);
        byte[] nine = Bytes.repeated(9, 8, 3);
        byte[] code = Bytes.of(0, 1, 1);
        byte[] own = Bytes.of(0, 0, 0, 0, 1, 0);
        fine("8 taken, 8 given, 32 locals", Bytes.module(own, Bytes.of(8), eight, Bytes.of(8), eight,
            Bytes.of(32), Bytes.repeated(32, 9, 5), code));
        fault("9 taken", 3, 12, Bytes.module(own, Bytes.of(9), nine, Bytes.of(0, 0), code));
        fault("9 given", 3, 13, Bytes.module(own, Bytes.of(0, 9), nine, Bytes.of(0), code));
        fault("33 locals", 3, 14, Bytes.module(own, Bytes.of(0, 0, 33), Bytes.repeated(33, 1), code));
        byte[] foreign = Bytes.of(0, 0, 1, 0, 1, 2, 0);
        fine("foreign: 8 taken, 8 given", Bytes.module(foreign, Bytes.of(8), eight, Bytes.of(8), eight, Bytes.of(0, 0)));
        fault("foreign: 9 taken", 3, 13, Bytes.module(foreign, Bytes.of(9), nine, Bytes.of(0, 0, 0)));
        fault("foreign: 9 given", 3, 14, Bytes.module(foreign, Bytes.of(0, 9), nine, Bytes.of(0, 0)));
    }

    private static void abilitiesAndFlags() {
        fine("abilities 15", Bytes.module(Bytes.of(1, 15, 1, 1, 0, 0, 0, 0)));
        fault("abilities 16", 3, 7, Bytes.module(Bytes.of(1, 16, 1, 1, 0, 0, 0, 0)));
        fault("abilities 255", 3, 7, Bytes.module(Bytes.of(1, 255, 1, 1, 0, 0, 0, 0)));
        fine("foreign abilities 15", Bytes.module(Bytes.of(0, 1, 0, 0, 0, 15, 0, 0, 0)));
        fault("foreign abilities 16", 3, 11, Bytes.module(Bytes.of(0, 1, 0, 0, 0, 16, 0, 0, 0)));
        fine("flags 7", Bytes.module(Bytes.of(0, 0, 0, 0, 1, 7, 0, 0, 0, 0, 1, 1)));
        fault("flags 8", 3, 11, Bytes.module(Bytes.of(0, 0, 0, 0, 1, 8, 0, 0, 0, 0, 1, 1)));
        fine("foreign flags 7", Bytes.module(Bytes.of(0, 0, 1, 0, 0, 0, 7, 0, 0, 0, 0)));
        fault("foreign flags 8", 3, 12, Bytes.module(Bytes.of(0, 0, 1, 0, 0, 0, 8, 0, 0, 0, 0)));
    }

    private static void instructionCounts() {
        fault("0 instructions", 3, 15, Bytes.code(0));
        fine("1 instruction", Bytes.code(1, 1));
        fine("1024 instructions", Bytes.join(Bytes.code(1024), Bytes.repeated(1024, 0)));
        fault("1025 instructions", 3, 15, Bytes.join(Bytes.code(1025), Bytes.repeated(1025, 0)));
        fault("65535 instructions", 3, 15, Bytes.code(65535));
        byte[] function = Bytes.join(Bytes.of(0, 0, 0, 0, 4, 0), Bytes.repeated(1024, 0));
        byte[] eight = Bytes.join(function, function, function, function, function, function, function, function);
        byte[] one = Bytes.of(0, 0, 0, 0, 0, 1, 0);
        fine("8192 instructions in all", Bytes.module(Bytes.of(0, 0, 0, 0, 8), eight));
        fault("8193 instructions in all", 3, 11 + 8 * 1030 + 4, Bytes.module(Bytes.of(0, 0, 0, 0, 9), eight, one));
    }

    private static void types() {
        int[] wrong = {0, 8, 9, 10, 255};
        for (int type : wrong) {
            fault("a field's type " + type, 4, 9, Bytes.module(Bytes.of(1, 0, 1, type, 3, 0, 0, 0, 0)));
            fault("an element type " + type, 4, 10, Bytes.module(Bytes.of(0, 0, 0, 1, type, 3, 0)));
            fault("a vector of " + type, 4, 11, Bytes.module(Bytes.of(0, 0, 0, 1, 7, type, 3, 0)));
            fault("a reference to " + type, 4, 14, taking(8, type, 3));
            fault("a writing reference to " + type, 4, 14, taking(9, type, 3));
            fault("a vector in a list of " + type, 4, 14, taking(7, type, 3));
        }
        fault("a listed type 0", 4, 13, taking(0));
        fault("a listed type 10", 4, 13, taking(10));
        for (int type = 1; type <= 5; type++) {
            fine("an element type " + type, Bytes.module(Bytes.of(0, 0, 0, 1, type, 0)));
            fine("a reference to " + type, taking(8, type));
            fine("a writing reference to four vectors of " + type, taking(9, 7, 7, 7, 7, type));
        }
        fine("four vectors", Bytes.module(Bytes.of(0, 0, 0, 1, 7, 7, 7, 7, 3, 0)));
        fault("five vectors", 4, 14, Bytes.module(Bytes.of(0, 0, 0, 1, 7, 7, 7, 7, 7, 3, 0)));
        fault("a reference to five vectors", 4, 18, taking(8, 7, 7, 7, 7, 7, 3));
        fault("a type ends", 2, 12, Bytes.module(Bytes.of(0, 0, 0, 1, 7, 6)));
        fault("a reference ends", 2, 14, Bytes.cut(taking(8, 3), 14));
        referencesInEveryList();
    }

    private static void referencesInEveryList() {
        fine("references in a foreign function's lists", Bytes.module(Bytes.of(0, 0, 1, 0, 1, 2, 0, 1, 8, 1, 1, 9, 2, 0, 0)));
        fine("references in a function's lists", Bytes.module(Bytes.of(0, 0, 0, 0, 1, 0, 1, 8, 1, 1, 9, 2, 1, 8, 3, 0, 1, 1)));
    }

    /** A module of one function that takes one thing, of this type; the type begins at place 13. */
    private static byte[] taking(int... type) {
        return Bytes.module(Bytes.of(0, 0, 0, 0, 1, 0, 1), Bytes.of(type), Bytes.of(0, 0, 0, 1, 1));
    }

    private static void operations() {
        fine("operation 59", Bytes.code(1, 59));
        fault("operation 60", 5, 17, Bytes.code(1, 60));
        fault("operation 255", 5, 17, Bytes.code(1, 255));
        fault("operation 128 behind others", 5, 20, Bytes.code(3, 5, 255, 0, 128));
        for (int operation = 0; operation <= 59; operation++) {
            int size = operandBytes(operation);
            byte[] row = Bytes.join(operands(operation), Bytes.repeated(size, 0));
            fine("operation " + operation, row);
            fault("operation " + operation + ", a byte less", 2, row.length - 1, Bytes.cut(row, row.length - 1));
            fault("operation " + operation + ", a byte more", 6, row.length, Bytes.join(row, Bytes.of(0)));
        }
    }

    /** A module in which number 0 names something of every kind; the operation is its last byte. */
    private static byte[] operands(int operation) {
        return Bytes.module(Bytes.of(1, 0, 1, 1, 0, 0, 1, 1, 1, 0, 1, 1, 0, 0, 0, 1, operation));
    }

    private static int operandBytes(int operation) {
        int[] one = {5, 11, 12, 13, 14, 15, 21, 22, 23, 47, 48, 49, 50, 51, 53, 54, 55, 56, 57, 58};
        for (int other : one) {
            if (operation == other) {
                return 1;
            }
        }
        switch (operation) {
            case 2: case 3: case 4: case 16: case 17: case 52:
                return 2;
            case 6: case 10:
                return 8;
            case 7:
                return 16;
            default:
                return 0;
        }
    }

    private static void bytesBehind() {
        fault("a byte behind", 6, Sample.LENGTH, Bytes.join(Sample.bytes(), Bytes.of(0)));
        fault("a module behind", 6, Sample.LENGTH, Bytes.join(Sample.bytes(), Sample.bytes()));
        fault("a byte behind the empty module", 6, 11, Bytes.module(Bytes.of(0, 0, 0, 0, 0, 82)));
    }

    /** A module with two own structures and two foreign ones, and one function; its only instruction begins at place 32. */
    private static byte[] withStructures(int... instruction) {
        return Bytes.module(Bytes.of(2, 0, 2, 1, 2, 0, 1, 3, 2, 0, 1, 0, 0, 0, 1, 1, 0, 0, 0, 1, 0, 0, 0, 0),
            Bytes.of(0, 1), Bytes.of(instruction));
    }

    private static void structureNumbers() {
        fine("a field of the last foreign structure", Bytes.module(Bytes.of(1, 0, 1, 6, 1, 1, 0, 0, 0, 0, 0, 0, 0)));
        fault("a field of no structure", 7, 10, Bytes.module(Bytes.of(1, 0, 1, 6, 2, 1, 0, 0, 0, 0, 0, 0, 0)));
        fault("a vector of no structure", 7, 11, Bytes.module(Bytes.of(1, 0, 1, 7, 6, 255, 0, 0, 0, 0)));
        fault("an element type of no structure", 7, 11, Bytes.module(Bytes.of(0, 0, 0, 1, 6, 0, 0)));
        fault("a taken type of no structure", 7, 15, taking(8, 6, 0));
        fault("a given type of no structure", 7, 15, Bytes.module(Bytes.of(0, 0, 0, 0, 1, 0, 0, 1, 6, 0, 0, 0, 1, 1)));
        fault("a local of no structure", 7, 16, Bytes.module(Bytes.of(0, 0, 0, 0, 1, 0, 0, 0, 1, 6, 0, 0, 1, 1)));
        fault("a foreign function's type", 7, 15, Bytes.module(Bytes.of(0, 0, 1, 0, 0, 0, 0, 1, 6, 0, 0, 0, 0)));
        fault("a foreign function's given type", 7, 16, Bytes.module(Bytes.of(0, 0, 1, 0, 0, 0, 0, 0, 1, 6, 0, 0, 0)));
    }

    private static void ownStructures() {
        for (int operation : new int[] {16, 17, 21, 22, 47, 48, 49, 50, 51}) {
            boolean field = operation == 16 || operation == 17;
            fine("own structure, " + operation, withStructures(named(operation, 1, field)));
            fault("foreign structure, " + operation, 8, 33, withStructures(named(operation, 2, field)));
            fault("last foreign structure, " + operation, 8, 33, withStructures(named(operation, 3, field)));
            fault("no structure, " + operation, 7, 33, withStructures(named(operation, 4, field)));
            fault("no structure 255, " + operation, 7, 33, withStructures(named(operation, 255, field)));
        }
    }

    private static int[] named(int operation, int structure, boolean field) {
        return field ? new int[] {operation, structure, 0} : new int[] {operation, structure};
    }

    private static void fieldNumbers() {
        for (int operation : new int[] {16, 17}) {
            fine("the last field, " + operation, withStructures(operation, 0, 1));
            fault("no field, " + operation, 9, 34, withStructures(operation, 0, 2));
            fault("no field of the second, " + operation, 9, 34, withStructures(operation, 1, 1));
            fault("no field 255, " + operation, 9, 34, withStructures(operation, 1, 255));
            fault("a foreign structure before its field, " + operation, 8, 33, withStructures(operation, 2, 255));
        }
    }

    private static void localNumbers() {
        for (int operation = 11; operation <= 15; operation++) {
            byte[] row = Bytes.module(Bytes.of(0, 0, 0, 0, 1, 0, 2, 1, 1, 1, 1, 1, 1, 0, 1, operation, 0));
            fine("a taken local, " + operation, Bytes.with(row, 22, 1));
            fine("the last local, " + operation, Bytes.with(row, 22, 2));
            fault("no local, " + operation, 10, 22, Bytes.with(row, 22, 3));
            fault("no local 255, " + operation, 10, 22, Bytes.with(row, 22, 255));
            fault("no locals at all, " + operation, 10, 18, Bytes.code(1, operation, 0));
        }
    }

    private static void functionNumbers() {
        fine("a call of itself", Bytes.code(1, 23, 0));
        fault("a call of none", 11, 18, Bytes.code(1, 23, 1));
        byte[] row = Bytes.module(Bytes.of(0, 0, 1, 0, 0, 0, 0, 0, 0, 0, 2, 0, 0, 0, 0, 0, 1, 23, 0, 0, 0, 0, 0, 0, 1, 1));
        fine("a call of a later one", Bytes.with(row, 24, 1));
        fine("a call of a foreign one", Bytes.with(row, 24, 2));
        fault("a call of one behind", 11, 24, Bytes.with(row, 24, 3));
    }

    /** A module of one element type and one function; its only instruction begins at place 18. */
    private static byte[] withElements(int... instruction) {
        return Bytes.module(Bytes.of(0, 0, 0, 1, 3, 1, 0, 0, 0, 0, 0, 1), Bytes.of(instruction));
    }

    private static void elementNumbers() {
        for (int operation = 53; operation <= 58; operation++) {
            fine("an element type, " + operation, withElements(operation, 0));
            fault("no element type, " + operation, 12, 19, withElements(operation, 1));
            fault("no element types at all, " + operation, 12, 18, Bytes.code(1, operation, 0));
        }
        fault("no element type, 52", 12, 19, withElements(52, 1, 0));
        fault("no element type 255, 52", 12, 19, withElements(52, 255, 64));
    }

    private static void branches() {
        for (int operation = 2; operation <= 4; operation++) {
            fine("a branch to the last, " + operation, Bytes.code(2, operation, 0, 1, 1));
            fault("a branch behind the last, " + operation, 13, 18, Bytes.code(2, operation, 0, 2, 1));
            fault("a branch far behind, " + operation, 13, 18, Bytes.code(2, operation, 1, 0, 1));
            fault("a later branch, " + operation, 13, 19, Bytes.code(2, 1, operation, 255, 255));
        }
    }

    private static void circles() {
        fault("a field of itself", 14, 7, structures(2, Bytes.of(0, 1, 6, 0), Bytes.of(0, 1, 1)));
        fault("vectors of itself", 14, 7, structures(1, Bytes.of(0, 1, 7, 7, 7, 7, 6, 0)));
        fault("two of each other", 14, 7, structures(2, Bytes.of(0, 1, 6, 1), Bytes.of(0, 1, 6, 0)));
        fault("the second of itself", 14, 11, structures(2, Bytes.of(0, 1, 6, 1), Bytes.of(0, 2, 1, 6, 1)));
        fault("a circle that leaves out the first", 14, 14,
            structures(3, Bytes.of(0, 3, 6, 1, 6, 2, 5), Bytes.of(0, 1, 7, 6, 2), Bytes.of(0, 1, 6, 1)));
        fault("a circle of the last", 14, 15,
            structures(3, Bytes.of(0, 1, 6, 1), Bytes.of(0, 1, 6, 2), Bytes.of(0, 1, 6, 2)));
        fine("a chain", structures(3, Bytes.of(0, 1, 6, 1), Bytes.of(0, 1, 6, 2), Bytes.of(0, 1, 3)));
        fine("a chain backwards", structures(3, Bytes.of(0, 1, 3), Bytes.of(0, 1, 6, 0), Bytes.of(0, 2, 6, 0, 6, 1)));
        fine("a foreign one in the first", structures(1, Bytes.of(0, 2, 6, 1, 7, 6, 1)));
        longCircles();
    }

    private static void longCircles() {
        byte[][] chain = new byte[32][];
        for (int k = 0; k < 32; k++) {
            chain[k] = Bytes.of(0, 1, 6, k < 31 ? k + 1 : 32);
        }
        fine("a chain of 32", structures(32, chain));
        chain[31] = Bytes.of(0, 1, 6, 0);
        fault("a circle of 32", 14, 7, structures(32, chain));
        chain[31] = Bytes.of(0, 1, 6, 31);
        fault("the last one of itself", 14, 7 + 31 * 4, structures(32, chain));
        chain[31] = Bytes.of(0, 1, 6, 17);
        fault("a circle from 17 on", 14, 7 + 17 * 4, structures(32, chain));
    }

    /** A module of these structures and one foreign structure. */
    private static byte[] structures(int count, byte[]... rows) {
        return Bytes.module(Bytes.of(count), Bytes.join(rows), Bytes.of(1, 0, 0, 0, 0, 0, 0, 0));
    }

    private static void order() {
        fault("a wrong mark before the end", 1, 1, Bytes.of(82, 0));
        fault("bounds before the end", 3, 6, Bytes.module(Bytes.of(33)));
        fault("no type before the end", 4, 9, Bytes.module(Bytes.of(1, 0, 1, 0)));
        fault("no operation before the end", 5, 17, Bytes.code(2, 60));
        fault("bounds before a later type", 3, 7, Bytes.module(Bytes.of(1, 16, 1, 0, 0, 0, 0, 0)));
        fault("a type before later bounds", 4, 9, Bytes.module(Bytes.of(1, 0, 1, 0, 33)));
        fault("the end before an earlier name", 2, 14, Bytes.module(Bytes.of(1, 0, 1, 6, 9, 0, 0, 0)));
        fault("bytes behind before an earlier name", 6, 15, Bytes.module(Bytes.of(1, 0, 1, 6, 9, 0, 0, 0, 0, 1)));
        fault("an operation before an earlier name", 5, 19, Bytes.code(2, 23, 9, 60));
        fault("a vector's bounds before its name", 3, 20, withElements(52, 9, 65));
        fault("a name before an earlier circle", 12, 22,
            Bytes.module(Bytes.of(1, 0, 1, 6, 0, 0, 0, 0, 1, 0, 0, 0, 0, 0, 1, 53, 0)));
        fault("the circle behind it", 14, 7, Bytes.module(Bytes.of(1, 0, 1, 6, 0, 0, 0, 0, 1, 0, 0, 0, 0, 0, 1, 59)));
        fault("the earlier of two names", 13, 18, Bytes.code(2, 2, 0, 9, 23, 9));
        fault("the earlier of two names, turned", 11, 18, Bytes.code(2, 23, 9, 2, 0, 9));
        fault("a type's name before a code's", 7, 11, Bytes.module(Bytes.of(0, 0, 0, 1, 6, 0, 1, 0, 0, 0, 0, 0, 1, 11, 9)));
        fault("a structure before its field", 7, 18, Bytes.code(1, 16, 0, 9));
    }
}
