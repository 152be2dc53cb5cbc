/** Reads one row of bytes with new objects, within their 512 calls, and looks at what comes of it. */
final class Reading {
    static final int CALLS = 512;

    private Reading() {
    }

    /** How many calls it takes to type the row. */
    static int calls(byte[] row) {
        return (row.length + 7) / 8;
    }

    static void fault(String name, int why, int place, byte[] row) {
        stayWithin(name, calls(row) + 4);
        faultBeyond(name, why, place, row);
    }

    /** The same for rows that are too long for 512 calls. */
    static void faultBeyond(String name, int why, int place, byte[] row) {
        CodeTables x = Bytes.typed(row);
        Check.due(name + ": read()", x.read(), -why);
        Check.due(name + ": place()", x.place(), place);
        Check.due(name + ": told(0)", x.told(0), CodeTables.BAD);
        Check.due(name + ": write()", x.write(), CodeTables.BAD);
    }

    /** The row is taken, and the very same bytes are written. */
    static void fine(String name, byte[] row) {
        stayWithin(name, calls(row) + 4);
        int asked = 0;
        while (asked < row.length) {
            CodeTables x = written(name, row);
            int end = Math.min(row.length, asked + CALLS - calls(row) - 3);
            for (; asked < end; asked++) {
                Check.due(name + ": written(" + asked + ")", x.written(asked), row[asked] & 255);
            }
        }
    }

    /** The same for rows that are too long for 512 calls. */
    static void fineBeyond(String name, byte[] row) {
        CodeTables x = written(name, row);
        for (int i = 0; i < row.length; i++) {
            Check.due(name + ": written(" + i + ")", x.written(i), row[i] & 255);
        }
        Check.due(name + ": written behind the end", x.written(row.length), CodeTables.BAD);
    }

    private static CodeTables written(String name, byte[] row) {
        CodeTables x = read(name, row);
        Check.due(name + ": place()", x.place(), row.length);
        Check.due(name + ": write()", x.write(), row.length);
        return x;
    }

    /** An object whose module is this one. */
    static CodeTables read(String name, byte[] row) {
        CodeTables x = Bytes.typed(row);
        Check.due(name + ": read()", x.read(), 0);
        return x;
    }

    private static void stayWithin(String name, int calls) {
        Check.holds(name + " stays within 512 calls", calls <= CALLS);
    }
}
