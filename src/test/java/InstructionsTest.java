/** What the document's Terms say of an INSTRUCTION: which operations there are, and which operands stand behind each. */
public final class InstructionsTest {
    private static final int[] ONE_BYTE = {5, 11, 12, 13, 14, 15, 21, 22, 23, 47, 48, 49, 50, 51, 53, 54, 55, 56, 57, 58};
    private static final int[] TWO_BYTES = {16, 17, 52};
    private static final int[] A_SHORT = {2, 3, 4};
    private static final int[] A_LONG = {6, 10};

    public static void main(String[] args) {
        operations();
        aByte();
        setAByte();
        twoBytes();
        aShort();
        aLong();
        twoLongs();
        none();
        Check.end();
    }

    /** Two of everything that a number can name, and one function with this code. */
    private static Parts two(int instructions, byte[]... code) {
        byte[] function = Bytes.join(Bytes.of(0, 1, 1, 0, 1, 1, instructions >> 8, instructions), Bytes.join(code));
        return new Parts().structures(2, Bytes.of(0, 2, 1, 1, 0, 2, 1, 1)).elements(2, Bytes.of(1, 1))
            .foreignFunctions(1, Bytes.of(0, 0, 0, 0, 0, 0)).functions(1, function);
    }

    private static int codeAt(Parts parts) {
        return parts.functionsAt() + 9;
    }

    private static boolean among(int operation, int[] row) {
        for (int other : row) {
            if (operation == other) {
                return true;
            }
        }
        return false;
    }

    private static int operandBytes(int operation) {
        if (among(operation, TWO_BYTES) || among(operation, A_SHORT)) {
            return 2;
        }
        if (among(operation, A_LONG)) {
            return 8;
        }
        return operation == 7 ? 16 : among(operation, ONE_BYTE) ? 1 : 0;
    }

    private static void operations() {
        Check.sentence("Terms", "AN INSTRUCTION is a byte, its OPERATION, 0 .. 59");
        for (int operation = 0; operation <= 255; operation++) {
            String name = "operation " + operation;
            Parts last = two(1, Bytes.of(operation), new byte[operation <= 59 ? operandBytes(operation) : 0]);
            Parts second = two(3, Bytes.of(5, 200, operation), new byte[operation <= 59 ? operandBytes(operation) : 0], Bytes.of(59));
            if (operation > 59) {
                Reading.fault(name, 5, codeAt(last), last.bytes());
                Reading.fault(name + " as the second one", 5, codeAt(second) + 2, second.bytes());
                continue;
            }
            Reading.fine(name, last.bytes());
            CodeTables x = Reading.read(name, second.bytes());
            Check.due(name + " is told", x.operation(0, 1), operation);
            Check.due("59 behind " + name, x.operation(0, 2), 59);
            Reading.fault(name + ", a byte less", 2, last.bytes().length - 1, Bytes.cut(last.bytes(), last.bytes().length - 1));
            Reading.fault(name + ", a byte more", 6, last.bytes().length, Bytes.join(last.bytes(), Bytes.of(0)));
        }
    }

    /** Both operands of one instruction, between two others. */
    private static void told(int operation, long first, long second, byte[] operands) {
        byte[] row = two(3, Bytes.of(5, 200, operation), operands, Bytes.of(5, 201)).bytes();
        String name = "operation " + operation + " with " + first + " and " + second;
        Reading.fine(name, row);
        CodeTables x = Reading.read(name, row);
        Check.due(name + ": operand(0, 0, 0)", x.operand(0, 0, 0), 200);
        Check.due(name + ": operand(0, 1, 0)", x.operand(0, 1, 0), first);
        Check.due(name + ": operand(0, 1, 1)", x.operand(0, 1, 1), second);
        Check.due(name + ": operand(0, 1, 2)", x.operand(0, 1, 2), 0);
        Check.due(name + ": operand(0, 2, 0)", x.operand(0, 2, 0), 201);
    }

    private static void aByte() {
        Check.sentence("Terms", "a byte for 5 (set a byte), 11 12 13 (copy, move, store a local), 14 15 (borrow one), "
            + "21 22 (pack, unpack a structure), 23 (call a function), 47 .. 51 (put, take, look for, borrow, borrow to "
            + "write a structure's resource), 53 .. 58 (with vectors of an element type)");
        for (int operation : ONE_BYTE) {
            told(operation, 0, 0, Bytes.of(0));
            told(operation, 1, 0, Bytes.of(1));
        }
    }

    private static void setAByte() {
        Check.sentence("Terms", "5 (set a byte)");
        for (int value : new int[] {0, 1, 59, 60, 127, 128, 254, 255}) {
            told(5, value, 0, Bytes.of(value));
        }
    }

    private static void twoBytes() {
        Check.sentence("Terms", "two bytes for 16 17 (borrow a field: a structure, a field), 52 (make a vector: an element type, how many: 0 .. 64)");
        for (int operation : TWO_BYTES) {
            told(operation, 0, 0, Bytes.of(0, 0));
            told(operation, 0, 1, Bytes.of(0, 1));
            told(operation, 1, 0, Bytes.of(1, 0));
        }
        told(52, 1, 64, Bytes.of(1, 64));
    }

    private static void aShort() {
        Check.sentence("Terms", "a SHORT for 2 3 4 (branches: an instruction of the function, from 0)");
        for (int operation : A_SHORT) {
            for (int target : new int[] {0, 1, 2}) {
                told(operation, target, 0, Bytes.of(0, target));
            }
            for (int target : new int[] {255, 256, 257, 1022, 1023}) {
                byte[] code = Bytes.join(Bytes.of(operation, target >> 8, target), new byte[1023]);
                CodeTables x = Reading.read("a branch to " + target, two(1024, code).bytes());
                Check.due(operation + ": a branch to " + target, x.operand(0, 0, 0), target);
            }
        }
    }

    private static void aLong() {
        Check.sentence("Terms", "a LONG for 6 10 (set a long, an address)");
        for (int operation : A_LONG) {
            for (long value : new long[] {0, 1, -1, Long.MIN_VALUE, Long.MAX_VALUE, 0x0123456789ABCDEFL}) {
                told(operation, value, 0, Bytes.longs(value));
            }
        }
    }

    private static void twoLongs() {
        Check.sentence("Terms", "two LONGS for 7 (set a wide, the higher half first)");
        told(7, 0, 0, new byte[16]);
        told(7, 0, 1, Bytes.join(Bytes.longs(0), Bytes.longs(1)));
        told(7, 1, 0, Bytes.join(Bytes.longs(1), Bytes.longs(0)));
        told(7, -1, Long.MIN_VALUE, Bytes.join(Bytes.longs(-1), Bytes.longs(Long.MIN_VALUE)));
        told(7, Long.MAX_VALUE, -1, Bytes.join(Bytes.longs(Long.MAX_VALUE), Bytes.longs(-1)));
    }

    private static void none() {
        Check.sentence("Terms", "none for all others.");
        for (int operation = 0; operation <= 59; operation++) {
            if (operandBytes(operation) == 0) {
                told(operation, 0, 0, new byte[0]);
            }
        }
    }
}
