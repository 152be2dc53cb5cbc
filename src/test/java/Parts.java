/** A module in parts: each has nothing in it until it is given. The number is 7. */
final class Parts {
    private static final int STRUCTURES_AT = 6;

    private byte[] structures = Bytes.of(0);
    private byte[] foreignStructures = Bytes.of(0);
    private byte[] foreignFunctions = Bytes.of(0);
    private byte[] elements = Bytes.of(0);
    private byte[] functions = Bytes.of(0);

    Parts structures(int count, byte[]... rows) {
        structures = counted(count, rows);
        return this;
    }

    Parts foreignStructures(int count, byte[]... rows) {
        foreignStructures = counted(count, rows);
        return this;
    }

    Parts foreignFunctions(int count, byte[]... rows) {
        foreignFunctions = counted(count, rows);
        return this;
    }

    Parts elements(int count, byte[]... rows) {
        elements = counted(count, rows);
        return this;
    }

    Parts functions(int count, byte[]... rows) {
        functions = counted(count, rows);
        return this;
    }

    byte[] bytes() {
        return Bytes.module(structures, foreignStructures, foreignFunctions, elements, functions);
    }

    // The place of each part's first byte, which says how many there are.

    int structuresAt() {
        return STRUCTURES_AT;
    }

    int foreignStructuresAt() {
        return structuresAt() + structures.length;
    }

    int foreignFunctionsAt() {
        return foreignStructuresAt() + foreignStructures.length;
    }

    int elementsAt() {
        return foreignFunctionsAt() + foreignFunctions.length;
    }

    int functionsAt() {
        return elementsAt() + elements.length;
    }

    /** A byte, how many, and these; the byte need not be true. */
    static byte[] counted(int count, byte[]... rows) {
        return Bytes.join(Bytes.of(count), Bytes.join(rows));
    }

    static byte[] times(int count, byte[] row) {
        byte[][] rows = new byte[count][];
        for (int i = 0; i < count; i++) {
            rows[i] = row;
        }
        return Bytes.join(rows);
    }

    /** A function without locals; its count of instructions begins at 4, its code at 6. */
    static byte[] function(int instructions, byte[]... code) {
        return Bytes.join(Bytes.of(0, 0, 0, 0, instructions >> 8, instructions), Bytes.join(code));
    }

    /** A function of one instruction, which does nothing. */
    static byte[] shortest() {
        return function(1, Bytes.of(0));
    }
}
