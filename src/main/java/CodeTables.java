import java.util.Arrays;

/** Modules as bytes: a tape is taken apart into tables, or refused, and tables are written as bytes again. */
public final class CodeTables {
    public static final int BAD = -1;
    public static final int FULL = -3;

    private static final int MOST_BYTES = 65536;
    // An object's 512 calls type at most this many bytes; only one that is used longer needs longer rows.
    private static final int FIRST_ROOM = 512 * 8;
    private static final int[] MARK = {82, 76, 77, 49};

    private byte[] tape;
    private int length;
    private int faultPlace;
    private boolean hasModule;
    private final Tables tables;
    private final Reader reader;
    private final Writer writer;

    public CodeTables() {
        tape = new byte[FIRST_ROOM];
        length = 0;
        faultPlace = 0;
        hasModule = false;
        tables = new Tables();
        reader = new Reader(tables);
        writer = new Writer(tables);
    }

    public int type(long bytes, int n) {
        if (n < 1 || n > 8) {
            return BAD;
        }
        if (length + n > MOST_BYTES) {
            return FULL;
        }
        tape = withRoom(tape, length + n);
        putBytes(tape, length, bytes, n);
        length += n;
        return length;
    }

    public int read() {
        reader.begin(tape, length);
        reader.walk(false);
        reader.walk(true);
        reader.findCircle();
        faultPlace = reader.where;
        hasModule = reader.why == 0;
        length = 0;
        return -reader.why;
    }

    public int place() {
        return faultPlace;
    }

    public int told(int what) {
        return hasModule && what >= 0 && what < Tables.COUNTS ? tables.counts[what] : BAD;
    }

    public int structure(int k, int what) {
        return hasModule ? tables.structureFact(k, what) : BAD;
    }

    public long field(int k, int i) {
        return hasModule ? tables.fieldType(k, i) : 0;
    }

    public int function(int f, int what) {
        return hasModule ? tables.functionFact(f, what) : BAD;
    }

    public long listed(int f, int list, int i) {
        return hasModule ? tables.listedType(f, list, i) : 0;
    }

    public long element(int k) {
        return hasModule && k >= 0 && k < tables.counts[Tables.ELEMENTS] ? tables.elements[k] : 0;
    }

    public int operation(int f, int i) {
        int at = hasModule ? tables.instructionAt(f, i) : BAD;
        return at < 0 ? BAD : tables.operations[at];
    }

    public long operand(int f, int i, int which) {
        int at = hasModule ? tables.instructionAt(f, i) : BAD;
        if (at < 0 || which < 0 || which > 1) {
            return 0;
        }
        return which == 0 ? tables.firstOperands[at] : tables.secondOperands[at];
    }

    public int write() {
        if (!hasModule) {
            return BAD;
        }
        writer.putModule();
        return writer.length;
    }

    public int written(int i) {
        return i >= 0 && i < writer.length ? writer.row[i] & 255 : BAD;
    }

    private static byte[] withRoom(byte[] row, int need) {
        return need <= row.length ? row : Arrays.copyOf(row, MOST_BYTES);
    }

    /** The row has room for n bytes from the given place on; the highest one comes first. */
    private static void putBytes(byte[] row, int from, long bytes, int n) {
        for (int i = 0; i < n; i++) {
            row[from + i] = (byte) (bytes >>> 8 * (n - 1 - i));
        }
    }

    /** What stands behind an operation: which operands, and how many bytes each of them has. */
    private static final class Shape {
        static final int LAST_OPERATION = 59;
        static final int NONE = 0;
        static final int BYTE = 1;
        static final int LOCAL = 2;
        static final int STRUCTURE = 3;
        static final int FIELD = 4;
        static final int CALL = 5;
        static final int ELEMENT = 6;
        static final int VECTOR = 7;
        static final int BRANCH = 8;
        static final int LONG = 9;
        static final int WIDE = 10;

        static int of(int operation) {
            switch (operation) {
                case 2: case 3: case 4:
                    return BRANCH;
                case 5:
                    return BYTE;
                case 6: case 10:
                    return LONG;
                case 7:
                    return WIDE;
                case 11: case 12: case 13: case 14: case 15:
                    return LOCAL;
                case 16: case 17:
                    return FIELD;
                case 21: case 22: case 47: case 48: case 49: case 50: case 51:
                    return STRUCTURE;
                case 23:
                    return CALL;
                case 52:
                    return VECTOR;
                case 53: case 54: case 55: case 56: case 57: case 58:
                    return ELEMENT;
                default:
                    return NONE;
            }
        }

        static int firstSize(int shape) {
            switch (shape) {
                case NONE:
                    return 0;
                case BRANCH:
                    return 2;
                case LONG: case WIDE:
                    return 8;
                default:
                    return 1;
            }
        }

        static int secondSize(int shape) {
            switch (shape) {
                case FIELD: case VECTOR:
                    return 1;
                case WIDE:
                    return 8;
                default:
                    return 0;
            }
        }
    }

    /** One module's tables. Their rows have room for the largest module, and every module uses them again. */
    private static final class Tables {
        static final int MOST_STRUCTURES = 32;
        static final int MOST_FIELDS = 16;
        static final int MOST_ELEMENTS = 32;
        static final int MOST_FUNCTIONS = 64;
        static final int MOST_FOREIGN_FUNCTIONS = 32;
        static final int MOST_LISTED = 8;
        static final int MOST_FURTHER = 32;
        static final int MOST_INSTRUCTIONS = 1024;
        static final int MOST_INSTRUCTIONS_IN_ALL = 8192;

        // The counts have the numbers by which told() asks for them, ..
        static final int NUMBER = 0;
        static final int STRUCTURES = 1;
        static final int FOREIGN_STRUCTURES = 2;
        static final int FOREIGN_FUNCTIONS = 3;
        static final int ELEMENTS = 4;
        static final int FUNCTIONS = 5;
        static final int INSTRUCTIONS = 6;
        static final int COUNTS = 7;

        // .. a structure's facts those of structure(), ..
        static final int ABILITIES = 0;
        static final int FIELD_COUNT = 1;
        static final int STRUCTURE_MODULE = 2;
        static final int STRUCTURE_NUMBER = 3;
        static final int STRUCTURE_FACTS = 4;

        // .. and a function's facts those of function().
        static final int FLAGS = 0;
        static final int TAKEN = 1;
        static final int GIVEN = 2;
        static final int FURTHER = 3;
        static final int CODE_LENGTH = 4;
        static final int FUNCTION_MODULE = 5;
        static final int FUNCTION_NUMBER = 6;
        static final int FUNCTION_FACTS = 7;

        // A function's three lists stand one behind the other, the longest one last.
        static final int LISTS = 3;
        static final int LISTS_ROOM = 2 * MOST_LISTED + MOST_FURTHER;

        final int[] counts = new int[COUNTS];
        final int[] structureFacts = new int[2 * MOST_STRUCTURES * STRUCTURE_FACTS];
        final long[] fields = new long[MOST_STRUCTURES * MOST_FIELDS];
        // The foreign functions are read before it is known how many own ones there are:
        // they stand behind the room for all own ones.
        final int[] functionFacts = new int[(MOST_FUNCTIONS + MOST_FOREIGN_FUNCTIONS) * FUNCTION_FACTS];
        final long[] lists = new long[(MOST_FUNCTIONS + MOST_FOREIGN_FUNCTIONS) * LISTS_ROOM];
        final long[] elements = new long[MOST_ELEMENTS];
        final int[] firstInstructions = new int[MOST_FUNCTIONS];
        final byte[] operations = new byte[MOST_INSTRUCTIONS_IN_ALL];
        final long[] firstOperands = new long[MOST_INSTRUCTIONS_IN_ALL];
        final long[] secondOperands = new long[MOST_INSTRUCTIONS_IN_ALL];

        int allStructures() {
            return counts[STRUCTURES] + counts[FOREIGN_STRUCTURES];
        }

        int allFunctions() {
            return counts[FUNCTIONS] + counts[FOREIGN_FUNCTIONS];
        }

        int structureFact(int k, int what) {
            if (k < 0 || k >= allStructures() || what < 0 || what >= STRUCTURE_FACTS) {
                return BAD;
            }
            return structureFacts[k * STRUCTURE_FACTS + what];
        }

        long fieldType(int k, int i) {
            return i >= 0 && i < structureFact(k, FIELD_COUNT) ? fields[k * MOST_FIELDS + i] : 0;
        }

        int functionFact(int f, int what) {
            if (f < 0 || f >= allFunctions() || what < 0 || what >= FUNCTION_FACTS) {
                return BAD;
            }
            return functionFacts[slotOf(f) * FUNCTION_FACTS + what];
        }

        long listedType(int f, int list, int i) {
            if (list < 0 || list >= LISTS || i < 0 || i >= functionFact(f, TAKEN + list)) {
                return 0;
            }
            return lists[listStart(slotOf(f), list) + i];
        }

        int instructionAt(int f, int i) {
            if (f < 0 || f >= counts[FUNCTIONS] || i < 0 || i >= functionFact(f, CODE_LENGTH)) {
                return BAD;
            }
            return firstInstructions[f] + i;
        }

        private int slotOf(int f) {
            return f < counts[FUNCTIONS] ? f : f - counts[FUNCTIONS] + MOST_FUNCTIONS;
        }

        static int listStart(int slot, int list) {
            return slot * LISTS_ROOM + list * MOST_LISTED;
        }
    }

    /**
     * Walks over a tape's bytes into the tables. The first fault stays: behind it nothing more is read,
     * and every number that is asked for is 0.
     */
    private static final class Reader {
        private static final int WRONG_MARK = 1;
        private static final int ENDS_EARLY = 2;
        private static final int OUT_OF_BOUNDS = 3;
        private static final int NO_TYPE = 4;
        private static final int NO_OPERATION = 5;
        private static final int BYTES_BEHIND = 6;
        private static final int NO_STRUCTURE = 7;
        private static final int FOREIGN_STRUCTURE = 8;
        private static final int NO_FIELD = 9;
        private static final int NO_LOCAL = 10;
        private static final int NO_FUNCTION = 11;
        private static final int NO_ELEMENT = 12;
        private static final int NO_INSTRUCTION = 13;
        private static final int CIRCLE = 14;

        private static final int MOST_ABILITIES = 15;
        private static final int MOST_FLAGS = 7;
        private static final int MOST_IN_NEW_VECTOR = 64;
        private static final int TRUTH = 1;
        private static final int STRUCTURE = 6;
        private static final int VECTOR = 7;
        private static final int REFERENCE = 8;
        private static final int WRITING_REFERENCE = 9;
        private static final int MOST_VECTORS = 4;

        private final Tables tables;
        private final int[] abilitiesAt = new int[Tables.MOST_STRUCTURES];
        private final int[] contained = new int[Tables.MOST_STRUCTURES];
        private byte[] tape = new byte[0];
        private int length = 0;
        private int at = 0;
        // What a number names may stand behind it, so names are looked up in a second walk.
        private boolean looksUp = false;
        int why = 0;
        int where = 0;

        Reader(Tables tables) {
            this.tables = tables;
        }

        void begin(byte[] bytes, int count) {
            tape = bytes;
            length = count;
            why = 0;
            where = count;
        }

        void walk(boolean lookingUp) {
            if (why != 0) {
                return;
            }
            looksUp = lookingUp;
            at = 0;
            readMark();
            tables.counts[Tables.NUMBER] = (int) take(2);
            readStructures();
            readForeignStructures();
            readForeignFunctions();
            readElements();
            readFunctions();
            if (at < length) {
                fail(BYTES_BEHIND, at);
            }
        }

        private void readMark() {
            for (int i = 0; i < MARK.length; i++) {
                int start = at;
                if (take(1) != MARK[i]) {
                    fail(WRONG_MARK, start);
                }
            }
        }

        private void readStructures() {
            int count = takeWithin(1, 0, Tables.MOST_STRUCTURES);
            tables.counts[Tables.STRUCTURES] = count;
            for (int k = 0; k < count && why == 0; k++) {
                int facts = k * Tables.STRUCTURE_FACTS;
                abilitiesAt[k] = at;
                tables.structureFacts[facts + Tables.ABILITIES] = takeWithin(1, 0, MOST_ABILITIES);
                tables.structureFacts[facts + Tables.FIELD_COUNT] =
                    takeTypes(tables.fields, k * Tables.MOST_FIELDS, 1, Tables.MOST_FIELDS, false);
                tables.structureFacts[facts + Tables.STRUCTURE_MODULE] = BAD;
                tables.structureFacts[facts + Tables.STRUCTURE_NUMBER] = BAD;
            }
        }

        private void readForeignStructures() {
            int count = takeWithin(1, 0, Tables.MOST_STRUCTURES);
            tables.counts[Tables.FOREIGN_STRUCTURES] = count;
            for (int i = 0; i < count && why == 0; i++) {
                int facts = (tables.counts[Tables.STRUCTURES] + i) * Tables.STRUCTURE_FACTS;
                tables.structureFacts[facts + Tables.STRUCTURE_MODULE] = (int) take(2);
                tables.structureFacts[facts + Tables.STRUCTURE_NUMBER] = (int) take(1);
                tables.structureFacts[facts + Tables.ABILITIES] = takeWithin(1, 0, MOST_ABILITIES);
                tables.structureFacts[facts + Tables.FIELD_COUNT] = 0;
            }
        }

        private void readForeignFunctions() {
            int count = takeWithin(1, 0, Tables.MOST_FOREIGN_FUNCTIONS);
            tables.counts[Tables.FOREIGN_FUNCTIONS] = count;
            for (int i = 0; i < count && why == 0; i++) {
                int slot = Tables.MOST_FUNCTIONS + i;
                int facts = slot * Tables.FUNCTION_FACTS;
                tables.functionFacts[facts + Tables.FUNCTION_MODULE] = (int) take(2);
                tables.functionFacts[facts + Tables.FUNCTION_NUMBER] = (int) take(1);
                readFlagsAndLists(slot);
                tables.functionFacts[facts + Tables.FURTHER] = 0;
                tables.functionFacts[facts + Tables.CODE_LENGTH] = 0;
            }
        }

        private void readElements() {
            tables.counts[Tables.ELEMENTS] = takeTypes(tables.elements, 0, 0, Tables.MOST_ELEMENTS, false);
        }

        private void readFunctions() {
            int count = takeWithin(1, 0, Tables.MOST_FUNCTIONS);
            tables.counts[Tables.FUNCTIONS] = count;
            tables.counts[Tables.INSTRUCTIONS] = 0;
            for (int f = 0; f < count && why == 0; f++) {
                int facts = f * Tables.FUNCTION_FACTS;
                tables.functionFacts[facts + Tables.FUNCTION_MODULE] = BAD;
                tables.functionFacts[facts + Tables.FUNCTION_NUMBER] = BAD;
                readFlagsAndLists(f);
                tables.functionFacts[facts + Tables.FURTHER] =
                    takeTypes(tables.lists, Tables.listStart(f, 2), 0, Tables.MOST_FURTHER, true);
                readCode(f);
            }
        }

        private void readFlagsAndLists(int slot) {
            int facts = slot * Tables.FUNCTION_FACTS;
            tables.functionFacts[facts + Tables.FLAGS] = takeWithin(1, 0, MOST_FLAGS);
            tables.functionFacts[facts + Tables.TAKEN] =
                takeTypes(tables.lists, Tables.listStart(slot, 0), 0, Tables.MOST_LISTED, true);
            tables.functionFacts[facts + Tables.GIVEN] =
                takeTypes(tables.lists, Tables.listStart(slot, 1), 0, Tables.MOST_LISTED, true);
        }

        private void readCode(int f) {
            int facts = f * Tables.FUNCTION_FACTS;
            int locals = tables.functionFacts[facts + Tables.TAKEN] + tables.functionFacts[facts + Tables.FURTHER];
            int first = tables.counts[Tables.INSTRUCTIONS];
            int left = Tables.MOST_INSTRUCTIONS_IN_ALL - first;
            int count = takeWithin(2, 1, Math.min(Tables.MOST_INSTRUCTIONS, left));
            tables.functionFacts[facts + Tables.CODE_LENGTH] = count;
            tables.firstInstructions[f] = first;
            tables.counts[Tables.INSTRUCTIONS] = first + count;
            for (int slot = first; slot < first + count && why == 0; slot++) {
                int operation = takeOperation();
                int shape = Shape.of(operation);
                tables.operations[slot] = (byte) operation;
                tables.firstOperands[slot] = takeFirstOperand(shape, locals, count);
                tables.secondOperands[slot] = takeSecondOperand(shape, (int) tables.firstOperands[slot]);
            }
        }

        private int takeOperation() {
            int start = at;
            int operation = (int) take(1);
            if (operation > Shape.LAST_OPERATION) {
                fail(NO_OPERATION, start);
                return 0;
            }
            return operation;
        }

        private long takeFirstOperand(int shape, int locals, int instructions) {
            switch (shape) {
                case Shape.LOCAL:
                    return takeName(1, locals, NO_LOCAL);
                case Shape.STRUCTURE: case Shape.FIELD:
                    return takeOwnStructure();
                case Shape.CALL:
                    return takeName(1, tables.allFunctions(), NO_FUNCTION);
                case Shape.ELEMENT: case Shape.VECTOR:
                    return takeName(1, tables.counts[Tables.ELEMENTS], NO_ELEMENT);
                case Shape.BRANCH:
                    return takeName(2, instructions, NO_INSTRUCTION);
                default:
                    return take(Shape.firstSize(shape));
            }
        }

        private long takeSecondOperand(int shape, int first) {
            switch (shape) {
                case Shape.FIELD:
                    return takeName(1, tables.structureFact(first, Tables.FIELD_COUNT), NO_FIELD);
                case Shape.VECTOR:
                    return takeWithin(1, 0, MOST_IN_NEW_VECTOR);
                default:
                    return take(Shape.secondSize(shape));
            }
        }

        private int takeOwnStructure() {
            int start = at;
            int k = (int) take(1);
            if (looksUp && k >= tables.counts[Tables.STRUCTURES]) {
                fail(k < tables.allStructures() ? FOREIGN_STRUCTURE : NO_STRUCTURE, start);
            }
            return k;
        }

        /** How many types, and these, into the row. */
        private int takeTypes(long[] row, int from, int least, int most, boolean mayRefer) {
            int count = takeWithin(1, least, most);
            for (int i = 0; i < count && why == 0; i++) {
                row[from + i] = takeType(mayRefer);
            }
            return count;
        }

        private long takeType(boolean mayRefer) {
            long bytes = 0;
            if (mayRefer && (nextByte() == REFERENCE || nextByte() == WRITING_REFERENCE)) {
                bytes = take(1);
            }
            for (int i = 0; i < MOST_VECTORS && nextByte() == VECTOR; i++) {
                bytes = bytes << 8 | take(1);
            }
            int start = at;
            long kind = take(1);
            if (kind < TRUTH || kind > STRUCTURE) {
                fail(NO_TYPE, start);
            }
            bytes = bytes << 8 | kind;
            if (kind != STRUCTURE) {
                return bytes;
            }
            int numberStart = at;
            long k = take(1);
            if (looksUp && k >= tables.allStructures()) {
                fail(NO_STRUCTURE, numberStart);
            }
            return bytes << 8 | k;
        }

        /** A number below howMany; that it is one is looked at in the second walk alone. */
        private int takeName(int size, int howMany, int reason) {
            int start = at;
            int name = (int) take(size);
            if (looksUp && name >= howMany) {
                fail(reason, start);
            }
            return name;
        }

        private int takeWithin(int size, int least, int most) {
            int start = at;
            int value = (int) take(size);
            if (value < least || value > most) {
                fail(OUT_OF_BOUNDS, start);
                return 0;
            }
            return value;
        }

        private long take(int size) {
            if (why == 0 && length - at < size) {
                why = ENDS_EARLY;
                where = length;
            }
            if (why != 0) {
                return 0;
            }
            long value = 0;
            for (int i = 0; i < size; i++) {
                value = value << 8 | tape[at + i] & 255;
            }
            at += size;
            return value;
        }

        private int nextByte() {
            return why == 0 && at < length ? tape[at] & 255 : 0;
        }

        private void fail(int reason, int spot) {
            if (why == 0) {
                why = reason;
                where = spot;
            }
        }

        /** Bit j of contained[k] says that structure k contains structure j. */
        void findCircle() {
            if (why != 0) {
                return;
            }
            int count = tables.counts[Tables.STRUCTURES];
            for (int k = 0; k < count; k++) {
                contained[k] = structuresInFields(k, count);
            }
            for (int between = 0; between < count; between++) {
                for (int k = 0; k < count; k++) {
                    if ((contained[k] >>> between & 1) != 0) {
                        contained[k] |= contained[between];
                    }
                }
            }
            for (int k = 0; k < count; k++) {
                if ((contained[k] >>> k & 1) != 0) {
                    fail(CIRCLE, abilitiesAt[k]);
                }
            }
        }

        private int structuresInFields(int k, int ownCount) {
            int bits = 0;
            int fieldCount = tables.structureFact(k, Tables.FIELD_COUNT);
            for (int i = 0; i < fieldCount; i++) {
                long bytes = tables.fieldType(k, i);
                int last = (int) (bytes & 255);
                if ((bytes >>> 8 & 255) == STRUCTURE && last < ownCount) {
                    bits |= 1 << last;
                }
            }
            return bits;
        }
    }

    /** Writes the tables as bytes; what was written stays until the next module is written. */
    private static final class Writer {
        private final Tables tables;
        byte[] row = new byte[FIRST_ROOM];
        int length = 0;

        Writer(Tables tables) {
            this.tables = tables;
        }

        void putModule() {
            length = 0;
            for (int i = 0; i < MARK.length; i++) {
                put(MARK[i], 1);
            }
            put(tables.counts[Tables.NUMBER], 2);
            putStructures();
            putForeignStructures();
            putForeignFunctions();
            putElements();
            putFunctions();
        }

        private void putStructures() {
            int count = tables.counts[Tables.STRUCTURES];
            put(count, 1);
            for (int k = 0; k < count; k++) {
                int fieldCount = tables.structureFact(k, Tables.FIELD_COUNT);
                put(tables.structureFact(k, Tables.ABILITIES), 1);
                put(fieldCount, 1);
                for (int i = 0; i < fieldCount; i++) {
                    putType(tables.fieldType(k, i));
                }
            }
        }

        private void putForeignStructures() {
            put(tables.counts[Tables.FOREIGN_STRUCTURES], 1);
            for (int k = tables.counts[Tables.STRUCTURES]; k < tables.allStructures(); k++) {
                put(tables.structureFact(k, Tables.STRUCTURE_MODULE), 2);
                put(tables.structureFact(k, Tables.STRUCTURE_NUMBER), 1);
                put(tables.structureFact(k, Tables.ABILITIES), 1);
            }
        }

        private void putForeignFunctions() {
            put(tables.counts[Tables.FOREIGN_FUNCTIONS], 1);
            for (int f = tables.counts[Tables.FUNCTIONS]; f < tables.allFunctions(); f++) {
                put(tables.functionFact(f, Tables.FUNCTION_MODULE), 2);
                put(tables.functionFact(f, Tables.FUNCTION_NUMBER), 1);
                put(tables.functionFact(f, Tables.FLAGS), 1);
                putList(f, 0);
                putList(f, 1);
            }
        }

        private void putElements() {
            int count = tables.counts[Tables.ELEMENTS];
            put(count, 1);
            for (int k = 0; k < count; k++) {
                putType(tables.elements[k]);
            }
        }

        private void putFunctions() {
            int count = tables.counts[Tables.FUNCTIONS];
            put(count, 1);
            for (int f = 0; f < count; f++) {
                put(tables.functionFact(f, Tables.FLAGS), 1);
                for (int list = 0; list < Tables.LISTS; list++) {
                    putList(f, list);
                }
                putCode(f);
            }
        }

        private void putList(int f, int list) {
            int count = tables.functionFact(f, Tables.TAKEN + list);
            put(count, 1);
            for (int i = 0; i < count; i++) {
                putType(tables.listedType(f, list, i));
            }
        }

        private void putCode(int f) {
            int count = tables.functionFact(f, Tables.CODE_LENGTH);
            put(count, 2);
            for (int i = 0; i < count; i++) {
                int at = tables.firstInstructions[f] + i;
                int operation = tables.operations[at];
                int shape = Shape.of(operation);
                put(operation, 1);
                put(tables.firstOperands[at], Shape.firstSize(shape));
                put(tables.secondOperands[at], Shape.secondSize(shape));
            }
        }

        /** No type begins with a zero byte, and none has more than seven bytes. */
        private void putType(long bytes) {
            int size = 1;
            while (size < 8 && bytes >>> 8 * size != 0) {
                size++;
            }
            put(bytes, size);
        }

        private void put(long bytes, int size) {
            row = withRoom(row, length + size);
            putBytes(row, length, bytes, size);
            length += size;
        }
    }
}
