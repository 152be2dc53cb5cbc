/** The bounds that the document's Terms name: the smallest and the largest number that is allowed, and those beyond. */
public final class BoundsTest {
    private static final int[] SHORTS = {0, 1, 127, 128, 255, 256, 257, 32767, 32768, 65280, 65534, 65535};

    /** A module in which the number that is looked at is this one, and all else is as it has to be. */
    private interface Making {
        Parts with(int number);
    }

    /** Where the number stands in such a module. */
    private interface Placing {
        int in(Parts parts);
    }

    /** What is told of the number, once the module is read. */
    private interface Telling {
        long of(CodeTables x);
    }

    public static void main(String[] args) {
        structures();
        abilities();
        fields();
        foreignStructures();
        foreignAbilities();
        foreignFunctions();
        foreignLists();
        elements();
        functions();
        flags();
        foreignFlags();
        lists();
        furtherLocals();
        instructions();
        instructionsInAll();
        newVectors();
        theNumber();
        foreignStructuresNames();
        foreignFunctionsNames();
        shortsAndLongs();
        numbering();
        Check.end();
    }

    /** Every byte there is: those from least to most are taken and told, all others are fault 3 at their place. */
    private static void bound(int least, int most, Making making, Placing placing, Telling telling) {
        for (int number = 0; number <= 255; number++) {
            Parts parts = making.with(number);
            if (number < least || number > most) {
                Reading.fault("number " + number, 3, placing.in(parts), parts.bytes());
                continue;
            }
            Check.due("number " + number + " is told", telling.of(Reading.read("number " + number, parts.bytes())), number);
            if (number - least < 2 || most - number < 2) {
                Reading.fine("number " + number, parts.bytes());
            }
        }
    }

    private static void structures() {
        Check.sentence("Terms", "a byte, how many STRUCTURES it has (0 .. 32)");
        bound(0, 32, n -> new Parts().structures(n, Bytes.repeated(n, 0, 1, 1)), Parts::structuresAt, x -> x.told(1));
    }

    private static void abilities() {
        Check.sentence("Terms", "a byte, its ABILITIES (1 copy, 2 drop, 4 store, 8 key, added up: 0 .. 15)");
        bound(0, 15, n -> new Parts().structures(1, Bytes.of(n, 1, 1)), p -> p.structuresAt() + 1, x -> x.structure(0, 0));
        bound(0, 15, n -> new Parts().structures(2, Bytes.of(15, 1, 1), Bytes.of(n, 1, 1)),
            p -> p.structuresAt() + 4, x -> x.structure(1, 0));
    }

    private static void fields() {
        Check.sentence("Terms", "a byte, how many FIELDS (1 .. 16), and their TYPES");
        bound(1, 16, n -> new Parts().structures(1, Bytes.of(0, n), Bytes.repeated(n, 2)),
            p -> p.structuresAt() + 2, x -> x.structure(0, 1));
        bound(1, 16, n -> new Parts().structures(2, Bytes.of(0, 1, 1, 0, n), Bytes.repeated(n, 7, 2)),
            p -> p.structuresAt() + 5, x -> x.structure(1, 1));
    }

    private static void foreignStructures() {
        Check.sentence("Terms", "a byte, how many FOREIGN STRUCTURES (0 .. 32)");
        bound(0, 32, n -> new Parts().foreignStructures(n, Bytes.repeated(n, 0, 1, 2, 3)), Parts::foreignStructuresAt, x -> x.told(2));
    }

    private static void foreignAbilities() {
        Check.sentence("Terms", "a byte (abilities, 0 .. 15)");
        bound(0, 15, n -> new Parts().foreignStructures(1, Bytes.of(0, 1, 2, n)),
            p -> p.foreignStructuresAt() + 4, x -> x.structure(0, 0));
        bound(0, 15, n -> new Parts().foreignStructures(2, Bytes.of(255, 255, 255, 15, 0, 1, 2, n)),
            p -> p.foreignStructuresAt() + 8, x -> x.structure(1, 0));
    }

    private static void foreignFunctions() {
        Check.sentence("Terms", "a byte, how many FOREIGN FUNCTIONS (0 .. 32)");
        bound(0, 32, n -> new Parts().foreignFunctions(n, Bytes.repeated(n, 0, 1, 2, 3, 0, 0)), Parts::foreignFunctionsAt, x -> x.told(3));
    }

    private static void foreignLists() {
        Check.sentence("Terms", "a LIST of what it takes, a LIST of what it gives");
        bound(0, 8, n -> new Parts().foreignFunctions(1, Bytes.of(0, 1, 2, 3, n), Bytes.repeated(n, 8, 1), Bytes.of(0)),
            p -> p.foreignFunctionsAt() + 5, x -> x.function(0, 1));
        bound(0, 8, n -> new Parts().foreignFunctions(1, Bytes.of(0, 1, 2, 3, 0, n), Bytes.repeated(n, 9, 1)),
            p -> p.foreignFunctionsAt() + 6, x -> x.function(0, 2));
    }

    private static void elements() {
        Check.sentence("Terms", "a byte, how many ELEMENT TYPES (0 .. 32), and these TYPES");
        bound(0, 32, n -> new Parts().elements(n, Bytes.repeated(n, 5)), Parts::elementsAt, x -> x.told(4));
    }

    private static void functions() {
        Check.sentence("Terms", "a byte, how many FUNCTIONS (0 .. 64)");
        bound(0, 64, n -> new Parts().functions(n, Parts.times(n, Parts.shortest())), Parts::functionsAt, x -> x.told(5));
    }

    private static void flags() {
        Check.sentence("Terms", "its FLAGS (1 public, 2 entry, 4 that it uses resources: 0 .. 7)");
        bound(0, 7, n -> new Parts().functions(1, Bytes.of(n, 0, 0, 0, 0, 1, 0)), p -> p.functionsAt() + 1, x -> x.function(0, 0));
        bound(0, 7, n -> new Parts().functions(2, Parts.shortest(), Bytes.of(n, 0, 0, 0, 0, 1, 0)),
            p -> p.functionsAt() + 8, x -> x.function(1, 0));
    }

    /** The bounds of FLAGS stand at the functions; a foreign function's are FLAGS too. */
    private static void foreignFlags() {
        Check.sentence("Terms", "a byte (its function's number), a byte, its FLAGS");
        bound(0, 7, n -> new Parts().foreignFunctions(1, Bytes.of(0, 1, 2, n, 0, 0)),
            p -> p.foreignFunctionsAt() + 4, x -> x.function(0, 0));
    }

    private static void lists() {
        Check.sentence("Terms", "A LIST is a byte, how many (0 .. 8, if nothing else is said)");
        bound(0, 8, n -> new Parts().functions(1, Bytes.of(0, n), Bytes.repeated(n, 1), Bytes.of(0, 0, 0, 1, 0)),
            p -> p.functionsAt() + 2, x -> x.function(0, 1));
        bound(0, 8, n -> new Parts().functions(1, Bytes.of(0, 0, n), Bytes.repeated(n, 1), Bytes.of(0, 0, 1, 0)),
            p -> p.functionsAt() + 3, x -> x.function(0, 2));
        bound(0, 8, n -> new Parts().functions(1, Bytes.of(0, 8), Bytes.repeated(8, 1), Bytes.of(n), Bytes.repeated(n, 9, 1),
            Bytes.of(0, 0, 1, 0)), p -> p.functionsAt() + 11, x -> x.function(0, 2));
    }

    private static void furtherLocals() {
        Check.sentence("Terms", "its further LOCALS (at most 32)");
        bound(0, 32, n -> new Parts().functions(1, Bytes.of(0, 0, 0, n), Bytes.repeated(n, 1), Bytes.of(0, 1, 0)),
            p -> p.functionsAt() + 4, x -> x.function(0, 3));
        bound(0, 32, n -> new Parts().functions(1, Bytes.of(0, 8), Bytes.repeated(8, 1), Bytes.of(0, n), Bytes.repeated(n, 8, 1),
            Bytes.of(0, 1, 0)), p -> p.functionsAt() + 12, x -> x.function(0, 3));
    }

    private static void instructions() {
        Check.sentence("Terms", "a SHORT, how many INSTRUCTIONS (1 .. 1024), and these.");
        for (int count : new int[] {1, 2, 127, 128, 255, 256, 257, 512, 1023, 1024}) {
            byte[] row = new Parts().functions(1, Parts.function(count, new byte[count])).bytes();
            Reading.fine(count + " instructions", row);
            CodeTables x = Reading.read(count + " instructions", row);
            Check.due(count + " instructions: function(0, 4)", x.function(0, 4), count);
            Check.due(count + " instructions: told(6)", x.told(6), count);
        }
        for (int count : new int[] {0, 1025, 1026, 1280, 2048, 32767, 32768, 32769, 65280, 65535}) {
            byte[] code = new byte[Math.min(count, 3000)];
            Reading.fault(count + " instructions", 3, 15, new Parts().functions(1, Parts.function(count, code)).bytes());
            Reading.fault(count + " instructions of the second one", 3, 22,
                new Parts().functions(2, Parts.shortest(), Parts.function(count, code)).bytes());
        }
    }

    /** More bytes than 512 calls can type: the bound is kept there all the same. */
    private static void instructionsInAll() {
        Check.sentence("Terms", "In all functions there are at most 8192 instructions.");
        byte[] seven = Parts.times(7, Parts.function(1024, new byte[1024]));
        byte[] most = Parts.function(1024, new byte[1024]);
        byte[] less = Parts.function(1023, new byte[1023]);
        Reading.fineBeyond("8191 in all", new Parts().functions(8, seven, less).bytes());
        Reading.fineBeyond("8192 in all", new Parts().functions(8, seven, most).bytes());
        Reading.fineBeyond("8192 in all, of nine", new Parts().functions(9, seven, less, Parts.shortest()).bytes());
        int ninth = 11 + 8 * 1030 + 4;
        Reading.faultBeyond("8193 in all", 3, ninth, new Parts().functions(9, seven, most, Parts.shortest()).bytes());
        Reading.faultBeyond("8193 in all, and the end", 3, ninth, new Parts().functions(9, seven, most, Bytes.of(0, 0, 0, 0, 0, 1)).bytes());
        Reading.faultBeyond("8193 in all by two", 3, ninth - 1,
            new Parts().functions(9, seven, less, Parts.function(2, new byte[2])).bytes());
        Reading.faultBeyond("9216 in all", 3, ninth, new Parts().functions(9, seven, most, most).bytes());
        CodeTables x = Bytes.typed(new Parts().functions(8, seven, most).bytes());
        x.read();
        Check.due("8192 in all: told(6)", x.told(6), 8192);
        Check.due("8192 in all: operation(7, 1023)", x.operation(7, 1023), 0);
        Check.due("8192 in all: operation(7, 1024)", x.operation(7, 1024), CodeTables.BAD);
    }

    private static void newVectors() {
        Check.sentence("Terms", "52 (make a vector: an element type, how many: 0 .. 64)");
        bound(0, 64, n -> new Parts().elements(1, Bytes.of(3)).functions(1, Parts.function(1, Bytes.of(52, 0, n))),
            p -> p.functionsAt() + 9, x -> x.operand(0, 0, 1));
    }

    private static void theNumber() {
        Check.sentence("Terms", "the bytes 82 76 77 49; a SHORT, its NUMBER");
        for (int number : SHORTS) {
            byte[] row = Bytes.of(82, 76, 77, 49, number >> 8, number, 0, 0, 0, 0, 0);
            Reading.fine("number " + number, row);
            Check.due("number " + number, Reading.read("number " + number, row).told(0), number);
        }
    }

    private static void foreignStructuresNames() {
        Check.sentence("Terms", "each a SHORT (a module), a byte (its structure's number)");
        for (int module : SHORTS) {
            int number = 255 - module % 256;
            byte[] row = new Parts().foreignStructures(1, Bytes.of(module >> 8, module, number, 0)).bytes();
            Reading.fine("module " + module, row);
            CodeTables x = Reading.read("module " + module, row);
            Check.due("structure(0, 2) with " + module, x.structure(0, 2), module);
            Check.due("structure(0, 3) with " + number, x.structure(0, 3), number);
        }
    }

    private static void foreignFunctionsNames() {
        Check.sentence("Terms", "each a SHORT (a module), a byte (its function's number)");
        for (int module : SHORTS) {
            int number = 255 - module % 256;
            byte[] row = new Parts().foreignFunctions(1, Bytes.of(module >> 8, module, number, 0, 0, 0)).bytes();
            Reading.fine("module " + module, row);
            CodeTables x = Reading.read("module " + module, row);
            Check.due("function(0, 5) with " + module, x.function(0, 5), module);
            Check.due("function(0, 6) with " + number, x.function(0, 6), number);
        }
    }

    private static void shortsAndLongs() {
        Check.sentence("Terms", "A SHORT is two bytes, a LONG eight, the higher ones first.");
        Check.due("the SHORT 1 2", Reading.read("1 2", Bytes.of(82, 76, 77, 49, 1, 2, 0, 0, 0, 0, 0)).told(0), 258);
        for (long number : new long[] {0, 1, 255, 256, -1, -2, Long.MIN_VALUE, Long.MAX_VALUE, 0x0102030405060708L, 0xF0E0D0C0B0A09080L}) {
            byte[] row = Bytes.longs(number);
            CodeTables x = Reading.read("LONG " + number, new Parts().functions(1, Parts.function(3,
                Bytes.of(6), row, Bytes.of(10), row, Bytes.of(7), row, Bytes.longs(~number))).bytes());
            Check.due("6 with " + number, x.operand(0, 0, 0), number);
            Check.due("10 with " + number, x.operand(0, 1, 0), number);
            Check.due("7 with " + number + " as its higher half", x.operand(0, 2, 0), number);
            Check.due("7 with " + ~number + " as its lower half", x.operand(0, 2, 1), ~number);
        }
    }

    private static void numbering() {
        Check.sentence("Terms", "STRUCTURES have the numbers 0, 1, .. in their order, the foreign ones behind them; "
            + "FUNCTIONS likewise, the foreign ones behind.");
        for (int own : new int[] {0, 1, 31, 32}) {
            CodeTables x = Reading.read(own + " own structures",
                new Parts().structures(own, Bytes.repeated(own, 1, 1, 1)).foreignStructures(1, Bytes.of(1, 2, 3, 4)).bytes());
            for (int k = 0; k < own; k++) {
                Check.due(own + " own: structure(" + k + ", 0)", x.structure(k, 0), 1);
            }
            Check.due(own + " own: the foreign one", x.structure(own, 2), 0x0102);
            Check.due(own + " own: behind it", x.structure(own + 1, 0), CodeTables.BAD);
        }
        for (int own : new int[] {0, 1, 63, 64}) {
            CodeTables x = Reading.read(own + " own functions",
                new Parts().foreignFunctions(1, Bytes.of(1, 2, 3, 4, 0, 0)).functions(own, Parts.times(own, Parts.shortest())).bytes());
            for (int f = 0; f < own; f++) {
                Check.due(own + " own: function(" + f + ", 4)", x.function(f, 4), 1);
            }
            Check.due(own + " own: the foreign one", x.function(own, 5), 0x0102);
            Check.due(own + " own: behind it", x.function(own + 1, 0), CodeTables.BAD);
        }
    }
}
