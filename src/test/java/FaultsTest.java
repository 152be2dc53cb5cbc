/** The faults 1 to 14, sentence by sentence: each with its place, and what stands next to it and is none. */
public final class FaultsTest {
    private static final int[] OF_STRUCTURES = {16, 17, 21, 22, 47, 48, 49, 50, 51};

    public static void main(String[] args) {
        wrongMark();
        placesFromZero();
        endsEarly();
        outOfBounds();
        noType();
        noOperation();
        bytesBehind();
        noStructure();
        foreignStructure();
        noField();
        noLocal();
        localsAreTakenAndFurther();
        noFunction();
        noElement();
        noInstruction();
        circles();
        circlesInVectors();
        firstCircle();
        ownCircles();
        Check.end();
    }

    private static void wrongMark() {
        Check.sentence("Terms", "1 one of the four first bytes is another one, there.");
        int[] mark = {82, 76, 77, 49};
        for (int i = 0; i < 4; i++) {
            for (int value : new int[] {0, mark[i] - 1, mark[i] + 1, mark[i] + 128, 255}) {
                byte[] row = Bytes.with(Sample.bytes(), i, value);
                Reading.fault("byte " + i + " is " + value, 1, i, row);
                Reading.fault("byte " + i + " is " + value + " and the last", 1, i, Bytes.cut(row, i + 1));
                Reading.fault("byte " + i + " is " + value + ", and all behind it", 1, i,
                    Bytes.join(Bytes.cut(row, i + 1), Bytes.repeated(20, 255)));
            }
        }
        Reading.fault("two bytes are others", 1, 1, Bytes.of(82, 0, 77, 0));
        Reading.fine("the fifth and sixth byte are free", Bytes.of(82, 76, 77, 49, 82, 76, 0, 0, 0, 0, 0));
    }

    private static void placesFromZero() {
        Check.sentence("Terms", "PLACES in it are numbered from 0.");
        Reading.fault("the first byte", 1, 0, Bytes.of(0));
        Reading.fault("the second byte", 1, 1, Bytes.of(82, 0));
        Reading.fault("the last byte of the sample", 5, 132, Bytes.with(Sample.bytes(), 132, 60));
    }

    private static void endsEarly() {
        Check.sentence("Terms", "2 the tape ends before the module does, at its length.");
        byte[] row = Sample.bytes();
        for (int length = 0; length < row.length; length++) {
            Reading.fault("the sample cut to " + length, 2, length, Bytes.cut(row, length));
        }
        byte[] empty = new Parts().bytes();
        for (int length = 0; length < empty.length; length++) {
            Reading.fault("the empty module cut to " + length, 2, length, Bytes.cut(empty, length));
        }
        Reading.fine("the empty module", empty);
        byte[] many = new Parts().functions(1, Parts.function(0x1000)).bytes();
        Reading.fault("half a count of instructions, too many by that half", 2, 16, Bytes.cut(many, 16));
    }

    private static void outOfBounds() {
        Check.sentence("Terms", "3 a number that is not in its bounds (how many, abilities, flags, how many instructions in all), at its first byte.");
        Reading.fault("how many structures", 3, 6, Bytes.with(Sample.bytes(), 6, 33));
        Reading.fault("abilities", 3, 7, Bytes.with(Sample.bytes(), 7, 16));
        Reading.fault("no fields", 3, 8, Bytes.with(Sample.bytes(), 8, 0));
        Reading.fault("how many fields", 3, 19, Bytes.with(Sample.bytes(), 19, 17));
        Reading.fault("how many foreign structures", 3, 22, Bytes.with(Sample.bytes(), 22, 33));
        Reading.fault("a foreign structure's abilities", 3, 30, Bytes.with(Sample.bytes(), 30, 16));
        Reading.fault("how many foreign functions", 3, 31, Bytes.with(Sample.bytes(), 31, 33));
        Reading.fault("a foreign function's flags", 3, 35, Bytes.with(Sample.bytes(), 35, 8));
        Reading.fault("how many a foreign function takes", 3, 36, Bytes.with(Sample.bytes(), 36, 9));
        Reading.fault("how many a foreign function gives", 3, 41, Bytes.with(Sample.bytes(), 41, 9));
        Reading.fault("how many element types", 3, 55, Bytes.with(Sample.bytes(), 55, 33));
        Reading.fault("how many functions", 3, 62, Bytes.with(Sample.bytes(), 62, 65));
        Reading.fault("flags", 3, 63, Bytes.with(Sample.bytes(), 63, 8));
        Reading.fault("how many it takes", 3, 64, Bytes.with(Sample.bytes(), 64, 9));
        Reading.fault("how many it gives", 3, 66, Bytes.with(Sample.bytes(), 66, 9));
        Reading.fault("how many further locals", 3, 71, Bytes.with(Sample.bytes(), 71, 33));
        Reading.fault("no instructions, at the SHORT", 3, 76, Bytes.with(Sample.bytes(), 77, 0));
        Reading.fault("1025 instructions, at the SHORT", 3, 76, Bytes.with(Bytes.with(Sample.bytes(), 76, 4), 77, 1));
        Reading.fault("how many a new vector has", 3, 93, Bytes.with(Sample.bytes(), 93, 65));
        Reading.fault("the second function's flags", 3, 126, Bytes.with(Sample.bytes(), 126, 8));
    }

    private static void noType() {
        Check.sentence("Terms", "4 a byte that is no TYPE there (also a fifth 7), at it.");
        int[] places = {9, 10, 11, 17, 20, 37, 40, 42, 43, 47, 56, 57, 58, 60, 65, 67, 68, 69, 70, 72, 73, 74};
        for (int place : places) {
            Reading.fault("no type at " + place, 4, place, Bytes.with(Sample.bytes(), place, 0));
            Reading.fault("no type at " + place, 4, place, Bytes.with(Sample.bytes(), place, 10));
        }
        Reading.fault("a fifth 7 in a field", 4, 17, Bytes.with(Sample.bytes(), 17, 7));
        Reading.fault("a fifth 7 behind a reference", 4, 47, Bytes.with(Sample.bytes(), 47, 7));
    }

    private static void noOperation() {
        Check.sentence("Terms", "5 a byte that is no operation, at it.");
        for (int place : new int[] {78, 80, 82, 84, 87, 89, 91, 94, 96, 99, 108, 125, 132}) {
            Reading.fault("60 at " + place, 5, place, Bytes.with(Sample.bytes(), place, 60));
            Reading.fault("128 at " + place, 5, place, Bytes.with(Sample.bytes(), place, 128));
            Reading.fault("255 at " + place, 5, place, Bytes.with(Sample.bytes(), place, 255));
        }
        Reading.fine("59 as the last one", Bytes.with(Sample.bytes(), 132, 59));
    }

    private static void bytesBehind() {
        Check.sentence("Terms", "6 bytes behind the module, at the first one.");
        for (int value : new int[] {0, 1, 82, 255}) {
            Reading.fault("a byte behind, " + value, 6, Sample.LENGTH, Bytes.join(Sample.bytes(), Bytes.of(value)));
            Reading.fault("a byte behind the empty module, " + value, 6, 11, Bytes.join(new Parts().bytes(), Bytes.of(value)));
        }
        Reading.fault("two bytes behind", 6, Sample.LENGTH, Bytes.join(Sample.bytes(), Bytes.of(0, 0)));
        Reading.fault("a module behind", 6, Sample.LENGTH, Bytes.join(Sample.bytes(), Sample.bytes()));
        Reading.fine("none behind", Sample.bytes());
    }

    /** Two own structures, of two fields and of one, and two foreign ones. */
    private static Parts withStructures(int... instruction) {
        return new Parts().structures(2, Bytes.of(0, 2, 1, 2), Bytes.of(0, 1, 3))
            .foreignStructures(2, Bytes.of(0, 1, 0, 0), Bytes.of(0, 1, 1, 0)).functions(1, Parts.function(1, Bytes.of(instruction)));
    }

    /** Where the only instruction of the only function begins. */
    private static int codeAt(Parts parts) {
        return parts.functionsAt() + 7;
    }

    private static int[] naming(int operation, int structure) {
        return operation <= 17 ? new int[] {operation, structure, 0} : new int[] {operation, structure};
    }

    private static void noStructure() {
        Check.sentence("Terms", "7 a structure's number that is none, at it.");
        for (int place : new int[] {12, 21, 39, 48, 59, 61, 75}) {
            Reading.fault("4 at " + place, 7, place, Bytes.with(Sample.bytes(), place, 4));
            Reading.fault("255 at " + place, 7, place, Bytes.with(Sample.bytes(), place, 255));
            Reading.fine("3 at " + place, Bytes.with(Sample.bytes(), place, 3));
        }
        for (int operation : OF_STRUCTURES) {
            for (int number : new int[] {4, 5, 128, 255}) {
                Parts parts = withStructures(naming(operation, number));
                Reading.fault(operation + " with " + number, 7, codeAt(parts) + 1, parts.bytes());
            }
            Parts parts = new Parts().functions(1, Parts.function(1, Bytes.of(naming(operation, 0))));
            Reading.fault(operation + " without structures", 7, codeAt(parts) + 1, parts.bytes());
        }
        Parts most = new Parts().structures(32, Bytes.repeated(32, 0, 1, 1)).foreignStructures(32, Bytes.repeated(32, 0, 0, 0, 0));
        Reading.fine("63 of 64", most.elements(1, Bytes.of(6, 63)).bytes());
        Reading.fault("64 of 64", 7, most.elementsAt() + 2, most.elements(1, Bytes.of(6, 64)).bytes());
    }

    private static void foreignStructure() {
        Check.sentence("Terms", "8 a structure that has to be the module's own (16, 17, 21, 22, 47 .. 51), and is a foreign one, at its number.");
        for (int operation : OF_STRUCTURES) {
            for (int number = 0; number <= 3; number++) {
                Parts parts = withStructures(naming(operation, number));
                if (number < 2) {
                    Reading.fine(operation + " with " + number, parts.bytes());
                } else {
                    Reading.fault(operation + " with " + number, 8, codeAt(parts) + 1, parts.bytes());
                }
            }
            Parts none = new Parts().foreignStructures(1, Bytes.of(0, 0, 0, 0)).functions(1, Parts.function(1, Bytes.of(naming(operation, 0))));
            Reading.fault(operation + " without own ones", 8, codeAt(none) + 1, none.bytes());
        }
        Parts most = new Parts().structures(32, Bytes.repeated(32, 0, 1, 1)).foreignStructures(32, Bytes.repeated(32, 0, 0, 0, 0));
        Reading.fine("31 of 32", most.functions(1, Parts.function(1, Bytes.of(21, 31))).bytes());
        Reading.fault("32 of 32", 8, codeAt(most) + 1, most.functions(1, Parts.function(1, Bytes.of(21, 32))).bytes());
        Reading.fault("63 of 32 and 32", 8, codeAt(most) + 1, most.functions(1, Parts.function(1, Bytes.of(21, 63))).bytes());
        Reading.fault("64 of 32 and 32", 7, codeAt(most) + 1, most.functions(1, Parts.function(1, Bytes.of(21, 64))).bytes());
    }

    private static void noField() {
        Check.sentence("Terms", "9 a field's number that is none.");
        for (int operation : new int[] {16, 17}) {
            int at = codeAt(withStructures(operation, 0, 0)) + 2;
            Reading.fine(operation + ": the last field of 0", withStructures(operation, 0, 1).bytes());
            Reading.fine(operation + ": the only field of 1", withStructures(operation, 1, 0).bytes());
            Reading.fault(operation + ": behind the last of 0", 9, at, withStructures(operation, 0, 2).bytes());
            Reading.fault(operation + ": behind the only one of 1", 9, at, withStructures(operation, 1, 1).bytes());
            Reading.fault(operation + ": 255", 9, at, withStructures(operation, 0, 255).bytes());
            Parts full = new Parts().structures(1, Bytes.of(0, 16), Bytes.repeated(16, 1));
            Reading.fine(operation + ": 15 of 16", full.functions(1, Parts.function(1, Bytes.of(operation, 0, 15))).bytes());
            Reading.fault(operation + ": 16 of 16", 9, codeAt(full) + 2, full.functions(1, Parts.function(1, Bytes.of(operation, 0, 16))).bytes());
        }
    }

    private static byte[] withLocals(int taken, int given, int further, int operation, int local) {
        return new Parts().functions(1, Bytes.of(0, taken), Bytes.repeated(taken, 1), Bytes.of(given), Bytes.repeated(given, 1),
            Bytes.of(further), Bytes.repeated(further, 1), Bytes.of(0, 1, operation, local)).bytes();
    }

    private static void noLocal() {
        Check.sentence("Terms", "10 a local's number that is none.");
        for (int operation = 11; operation <= 15; operation++) {
            Reading.fault(operation + ": 0 of none", 10, 18, withLocals(0, 0, 0, operation, 0));
            Reading.fine(operation + ": 0 of one", withLocals(1, 0, 0, operation, 0));
            Reading.fault(operation + ": 1 of one", 10, 19, withLocals(1, 0, 0, operation, 1));
            Reading.fine(operation + ": 39 of 40", withLocals(8, 0, 32, operation, 39));
            Reading.fault(operation + ": 40 of 40", 10, 58, withLocals(8, 0, 32, operation, 40));
            Reading.fault(operation + ": 255 of 40", 10, 58, withLocals(8, 0, 32, operation, 255));
        }
    }

    private static void localsAreTakenAndFurther() {
        Check.sentence("Terms", "LOCALS are what a function takes and its further locals, numbered from 0.");
        for (int operation = 11; operation <= 15; operation++) {
            Reading.fine(operation + ": the last taken one", withLocals(2, 0, 0, operation, 1));
            Reading.fine(operation + ": the last further one", withLocals(0, 0, 2, operation, 1));
            Reading.fine(operation + ": the last of both", withLocals(2, 0, 2, operation, 3));
            Reading.fault(operation + ": what is given is none", 10, 26, withLocals(0, 8, 0, operation, 0));
            Reading.fault(operation + ": what is given is none either", 10, 30, withLocals(2, 8, 2, operation, 4));
        }
        byte[] two = new Parts().functions(2, Bytes.of(0, 1, 1, 0, 0, 0, 1, 0), Parts.function(1, Bytes.of(11, 0))).bytes();
        Reading.fault("another function's local", 10, 26, two);
    }

    private static void noFunction() {
        Check.sentence("Terms", "11 a function's number that is none.");
        Reading.fine("itself", new Parts().functions(1, Parts.function(1, Bytes.of(23, 0))).bytes());
        Reading.fault("behind itself", 11, 18, new Parts().functions(1, Parts.function(1, Bytes.of(23, 1))).bytes());
        Reading.fault("255", 11, 18, new Parts().functions(1, Parts.function(1, Bytes.of(23, 255))).bytes());
        for (int called = 0; called <= 4; called++) {
            Parts parts = new Parts().foreignFunctions(2, Bytes.repeated(2, 0, 0, 0, 0, 0, 0))
                .functions(2, Parts.function(1, Bytes.of(23, called)), Parts.shortest());
            if (called < 4) {
                Reading.fine("a call of " + called, parts.bytes());
            } else {
                Reading.fault("a call of " + called, 11, codeAt(parts) + 1, parts.bytes());
            }
        }
        for (int called = 95; called <= 96; called++) {
            Parts most = new Parts().foreignFunctions(32, Bytes.repeated(32, 0, 0, 0, 0, 0, 0))
                .functions(64, Parts.function(1, Bytes.of(23, called)), Parts.times(63, Parts.shortest()));
            if (called == 95) {
                Reading.fine("95 of 96", most.bytes());
            } else {
                Reading.fault("96 of 96", 11, codeAt(most) + 1, most.bytes());
            }
        }
    }

    private static void noElement() {
        Check.sentence("Terms", "12 an element type's number that is none.");
        for (int operation = 52; operation <= 58; operation++) {
            for (int elements : new int[] {0, 1, 2, 32}) {
                Parts parts = new Parts().elements(elements, Bytes.repeated(elements, 1));
                int place = codeAt(parts) + 1;
                if (elements > 0) {
                    Reading.fine(operation + ": the last of " + elements, parts.functions(1, element(operation, elements - 1)).bytes());
                }
                Reading.fault(operation + ": behind the last of " + elements, 12, place, parts.functions(1, element(operation, elements)).bytes());
                Reading.fault(operation + ": 255 of " + elements, 12, place, parts.functions(1, element(operation, 255)).bytes());
            }
        }
    }

    private static byte[] element(int operation, int number) {
        return Parts.function(1, operation == 52 ? Bytes.of(52, number, 64) : Bytes.of(operation, number));
    }

    private static void noInstruction() {
        Check.sentence("Terms", "13 a branch to where no instruction is, at the SHORT. Each at its first byte.");
        for (int operation = 2; operation <= 4; operation++) {
            for (int count : new int[] {1, 2, 255, 256, 257, 1024}) {
                int last = count - 1;
                Reading.fine(operation + ": to the first of " + count, branch(operation, 0, count));
                Reading.fine(operation + ": to the last of " + count, branch(operation, last, count));
                Reading.fault(operation + ": behind the last of " + count, 13, 18, branch(operation, count, count));
                Reading.fault(operation + ": to 65535 of " + count, 13, 18, branch(operation, 65535, count));
                Reading.fault(operation + ": by its higher byte, of " + count, 13, 18, branch(operation, 0x8000 + last, count));
            }
            byte[] two = new Parts().functions(2, branchOf(operation, 1, 1), Parts.function(2, new byte[2])).bytes();
            Reading.fault(operation + ": into the next function", 13, 18, two);
            byte[] later = new Parts().functions(1, Parts.function(2, Bytes.of(1, operation, 0, 2))).bytes();
            Reading.fault(operation + ": of the second instruction", 13, 19, later);
        }
    }

    private static byte[] branchOf(int operation, int target, int count) {
        return Parts.function(count, Bytes.of(operation, target >> 8, target), new byte[count - 1]);
    }

    private static byte[] branch(int operation, int target, int count) {
        return new Parts().functions(1, branchOf(operation, target, count)).bytes();
    }

    /** A module of these structures and one foreign structure. */
    private static byte[] structures(byte[]... rows) {
        return new Parts().structures(rows.length, rows).foreignStructures(1, Bytes.of(0, 0, 0, 0)).bytes();
    }

    /** Structures of one field each, which is the next structure; the last one's field is this one. */
    private static byte[] chain(int count, int last) {
        byte[][] rows = new byte[count][];
        for (int k = 0; k < count; k++) {
            rows[k] = Bytes.of(0, 1, 6, k < count - 1 ? k + 1 : last);
        }
        return structures(rows);
    }

    private static void circles() {
        Check.sentence("Terms", "14 a structure that contains itself, by its fields' types, and theirs");
        Reading.fault("a field of itself", 14, 7, structures(Bytes.of(0, 1, 6, 0)));
        Reading.fault("the last of 16 fields", 14, 7, structures(Bytes.join(Bytes.of(0, 16), Bytes.repeated(15, 1), Bytes.of(6, 0))));
        Reading.fault("two of each other", 14, 7, structures(Bytes.of(0, 1, 6, 1), Bytes.of(0, 1, 6, 0)));
        Reading.fault("three in a round", 14, 7, structures(Bytes.of(0, 1, 6, 2), Bytes.of(0, 1, 6, 0), Bytes.of(0, 1, 6, 1)));
        Reading.fine("a chain", structures(Bytes.of(0, 1, 6, 1), Bytes.of(0, 1, 6, 2), Bytes.of(0, 1, 3)));
        Reading.fine("a chain backwards", structures(Bytes.of(0, 1, 3), Bytes.of(0, 1, 6, 0), Bytes.of(0, 2, 6, 0, 6, 1)));
        Reading.fine("one twice", structures(Bytes.of(0, 2, 6, 1, 6, 1), Bytes.of(0, 1, 3)));
        Reading.fine("one by two ways", structures(Bytes.of(0, 2, 6, 1, 6, 2), Bytes.of(0, 1, 6, 3), Bytes.of(0, 1, 6, 3), Bytes.of(0, 1, 1)));
        Reading.fine("a chain of 32", chain(32, 32));
        Reading.fault("a circle of 32", 14, 7, chain(32, 0));
    }

    private static void circlesInVectors() {
        Check.sentence("Terms", "also in vectors");
        for (int sevens = 1; sevens <= 4; sevens++) {
            byte[] vector = Bytes.join(Bytes.of(0, 1), Bytes.repeated(sevens, 7), Bytes.of(6));
            Reading.fault(sevens + " vectors of itself", 14, 7, structures(Bytes.join(vector, Bytes.of(0))));
            Reading.fault(sevens + " vectors of each other", 14, 7,
                structures(Bytes.join(vector, Bytes.of(1)), Bytes.join(vector, Bytes.of(0))));
            Reading.fine(sevens + " vectors of a foreign one", structures(Bytes.join(vector, Bytes.of(1))));
        }
    }

    private static void firstCircle() {
        Check.sentence("Terms", "at its ABILITIES, the first such one.");
        Reading.fault("the second of itself", 14, 10, structures(Bytes.of(0, 1, 1), Bytes.of(0, 1, 6, 1)));
        Reading.fault("the second of itself, and in the first", 14, 11, structures(Bytes.of(0, 1, 6, 1), Bytes.of(0, 2, 1, 6, 1)));
        Reading.fault("the first and the second", 14, 7, structures(Bytes.of(0, 1, 6, 0), Bytes.of(0, 1, 6, 1)));
        Reading.fault("a circle that leaves out the first", 14, 14,
            structures(Bytes.of(0, 3, 6, 1, 6, 2, 5), Bytes.of(0, 1, 7, 6, 2), Bytes.of(0, 1, 6, 1)));
        Reading.fault("the third alone", 14, 15, structures(Bytes.of(0, 1, 6, 1), Bytes.of(0, 1, 6, 2), Bytes.of(0, 1, 6, 2)));
        for (int from = 0; from < 32; from++) {
            Reading.fault("a circle from " + from + " on", 14, 7 + 4 * from, chain(32, from));
        }
    }

    private static void ownCircles() {
        Check.sentence("Terms", "of the module's own structures");
        Reading.fine("a foreign one", structures(Bytes.of(0, 2, 6, 1, 7, 6, 1)));
        Reading.fine("a foreign one behind 32", chain(32, 32));
        Reading.fine("the foreign one whose number is 32, in 0", thirtyTwo(0, 32));
        Reading.fine("the own one whose number is 30, in 31", thirtyTwo(31, 30));
        Reading.fault("the own one whose number is 31, in 31", 14, 7 + 31 * 4, thirtyTwo(31, 31));
        byte[][] vectors = new byte[8][];
        for (int k = 0; k < 8; k++) {
            vectors[k] = Bytes.of(0, 5, 7, 1, 7, 7, 2, 7, 3, 7, 7, 7, 4, 7, 5);
        }
        Reading.fine("vectors of plain types, whose bytes are numbers of structures too", structures(vectors));
        Reading.fine("in an element type and in lists", new Parts().structures(1, Bytes.of(0, 1, 1)).elements(1, Bytes.of(6, 0))
            .functions(1, Bytes.of(0, 1, 6, 0, 1, 6, 0, 1, 6, 0, 0, 1, 0)).bytes());
    }

    /** 32 structures of one field each, a foreign structure; but the field of structure k is this structure. */
    private static byte[] thirtyTwo(int k, int structure) {
        byte[][] rows = new byte[32][];
        for (int i = 0; i < 32; i++) {
            rows[i] = Bytes.of(0, 1, 6, i == k ? structure : 32);
        }
        return structures(rows);
    }
}
