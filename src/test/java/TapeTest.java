/** Promises 1 to 4: a new object, type, read, place. */
public final class TapeTest {
    public static void main(String[] args) {
        newObject();
        typing();
        wrongCounts();
        byteOrder();
        reading();
        fullTape();
        Check.end();
    }

    private static void newObject() {
        CodeTables x = new CodeTables();
        Check.due("new: place()", x.place(), 0);
        for (int what = -1; what <= 7; what++) {
            Check.due("new: told(" + what + ")", x.told(what), CodeTables.BAD);
        }
        Check.due("new: structure(0, 0)", x.structure(0, 0), CodeTables.BAD);
        Check.due("new: field(0, 0)", x.field(0, 0), 0);
        Check.due("new: function(0, 0)", x.function(0, 0), CodeTables.BAD);
        Check.due("new: listed(0, 0, 0)", x.listed(0, 0, 0), 0);
        Check.due("new: element(0)", x.element(0), 0);
        Check.due("new: operation(0, 0)", x.operation(0, 0), CodeTables.BAD);
        Check.due("new: operand(0, 0, 0)", x.operand(0, 0, 0), 0);
        Check.due("new: write()", x.write(), CodeTables.BAD);
        Check.due("new: written(0)", x.written(0), CodeTables.BAD);
        Check.due("new: type(1, 1)", x.type(1, 1), 1);
    }

    private static void typing() {
        CodeTables x = new CodeTables();
        int length = 0;
        for (int n = 1; n <= 8; n++) {
            length += n;
            Check.due("type(-1, " + n + ")", x.type(-1, n), length);
        }
        Check.due("place() before any read", x.place(), 0);
    }

    private static void wrongCounts() {
        CodeTables x = new CodeTables();
        x.type(82, 1);
        for (int n : new int[] {0, -1, 9, 64, Integer.MIN_VALUE, Integer.MAX_VALUE}) {
            Check.due("type(1, " + n + ")", x.type(1, n), CodeTables.BAD);
        }
        Check.due("type after wrong ones", x.type(76, 1), 2);
    }

    private static void byteOrder() {
        byte[] empty = Bytes.module(Bytes.of(0, 0, 0, 0, 0));
        CodeTables x = new CodeTables();
        x.type(0xFFFFFFFFFF524C4DL, 3);
        x.type(0x7FFFFF310102L, 3);
        x.type(0, 5);
        Check.due("read of pieces", x.read(), 0);
        Check.due("their place()", x.place(), empty.length);
        Check.due("their number", x.told(0), 0x0102);
        x.type(0x524C4D31FFFF0000L, 8);
        x.type(0xAB000000L, 3);
        Check.due("read of eight and three", x.read(), 0);
        Check.due("the highest number", x.told(0), 65535);
    }

    private static void reading() {
        byte[] empty = Bytes.module(Bytes.of(0, 0, 0, 0, 0));
        CodeTables x = Bytes.typed(empty);
        Check.due("read()", x.read(), 0);
        Check.due("place() is the length", x.place(), 11);
        Check.due("the tape is empty behind a read", x.type(82, 1), 1);
        Check.due("place() stays while typing", x.place(), 11);
        Check.due("the module stays while typing", x.told(0), 7);
        Check.due("read() of one byte", x.read(), -2);
        Check.due("its place()", x.place(), 1);
        Check.due("no module behind a fault", x.told(0), CodeTables.BAD);
        Check.due("the tape is empty behind a fault", x.type(83, 1), 1);
        Check.due("read() of a wrong mark", x.read(), -1);
        Check.due("its place()", x.place(), 0);
        Check.due("read() of an empty tape", x.read(), -2);
        Check.due("its place()", x.place(), 0);
        Bytes.type(x, empty);
        Check.due("read() behind faults", x.read(), 0);
        Check.due("a module again", x.told(0), 7);
        Check.due("read() of the emptied tape", x.read(), -2);
        Check.due("no module again", x.told(0), CodeTables.BAD);
    }

    /** More calls than the document speaks of: its limit is kept there all the same. */
    private static void fullTape() {
        CodeTables x = new CodeTables();
        for (int i = 1; i < 8192; i++) {
            x.type(0, 8);
        }
        Check.due("type up to 65535", x.type(0, 7), 65535);
        Check.due("type two beyond", x.type(0, 2), CodeTables.FULL);
        Check.due("type eight beyond", x.type(0, 8), CodeTables.FULL);
        Check.due("BAD goes before FULL", x.type(0, 9), CodeTables.BAD);
        Check.due("type the last one", x.type(0, 1), 65536);
        Check.due("type on a full tape", x.type(0, 1), CodeTables.FULL);
        Check.due("read() of a full tape", x.read(), -1);
        Check.due("type on the emptied tape", x.type(0, 1), 1);
    }
}
