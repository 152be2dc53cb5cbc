/** Which of two faults comes first: every pair of faults, in both orders of their places. */
public final class OrderTest {
    // The faults that a function can have in it; the others have a place of their own in the module.
    private static final int[] IN_FUNCTIONS = {3, 4, 5, 7, 8, 9, 10, 11, 12, 13};

    public static void main(String[] args) {
        fromTheBeginningOn();
        markFirst();
        endLast();
        behindLast();
        thenNames();
        namesFromTheBeginningOn();
        thenCircles();
        inOneInstruction();
        refusedAtTheFirst();
        Check.end();
    }

    /** A function with one fault in it, in a module of one own structure, one foreign one and two functions. */
    private static byte[] function(int why) {
        switch (why) {
            case 3:
                return Bytes.of(8, 0, 0, 0, 0, 1, 0);
            case 4:
                return Bytes.of(0, 1, 10, 0, 0, 0, 1, 0);
            case 5:
                return Parts.function(1, Bytes.of(60));
            case 7:
                return Parts.function(1, Bytes.of(21, 2));
            case 8:
                return Parts.function(1, Bytes.of(21, 1));
            case 9:
                return Parts.function(1, Bytes.of(16, 0, 1));
            case 10:
                return Parts.function(1, Bytes.of(11, 0));
            case 11:
                return Parts.function(1, Bytes.of(23, 2));
            case 12:
                return Parts.function(1, Bytes.of(53, 0));
            case 13:
                return Parts.function(1, Bytes.of(2, 0, 1));
            default:
                return Parts.shortest();
        }
    }

    /** Where in the function its fault is. */
    private static int placeIn(int why) {
        switch (why) {
            case 3:
                return 0;
            case 4:
                return 2;
            case 5:
                return 6;
            case 9:
                return 8;
            default:
                return 7;
        }
    }

    private static Parts module(int firstWhy, int secondWhy, boolean circle) {
        return new Parts().structures(1, circle ? Bytes.of(0, 1, 6, 0) : Bytes.of(0, 1, 1))
            .foreignStructures(1, Bytes.of(0, 0, 0, 0)).functions(2, function(firstWhy), function(secondWhy));
    }

    private static int firstPlace(Parts parts, int why) {
        return parts.functionsAt() + 1 + placeIn(why);
    }

    private static int secondPlace(Parts parts, int firstWhy, int why) {
        return firstPlace(parts, why) + function(firstWhy).length;
    }

    /** Faults 1 to 6 are looked for first, then 7 to 13, then 14. */
    private static int turn(int why) {
        return why <= 6 ? 1 : why <= 13 ? 2 : 3;
    }

    /** All pairs of a fault of this turn and one of that turn. */
    private static void pairs(int firstTurn, int secondTurn) {
        for (int first : IN_FUNCTIONS) {
            for (int second : IN_FUNCTIONS) {
                if (turn(first) != firstTurn || turn(second) != secondTurn) {
                    continue;
                }
                Parts parts = module(first, second, false);
                boolean firstWins = firstTurn <= secondTurn;
                int place = firstWins ? firstPlace(parts, first) : secondPlace(parts, first, second);
                Reading.fault(first + " and behind it " + second, firstWins ? first : second, place, parts.bytes());
            }
        }
    }

    private static void fromTheBeginningOn() {
        Check.sentence("Terms", "FAULTS, why and where. First, from the beginning on");
        pairs(1, 1);
        Reading.fault("how many before abilities", 3, 6, Bytes.module(Bytes.of(33, 16)));
        Reading.fault("abilities before how many fields", 3, 7, Bytes.module(Bytes.of(1, 16, 17)));
        Reading.fault("how many fields before a type", 3, 8, Bytes.module(Bytes.of(1, 0, 0, 0)));
        Reading.fault("a type before how many foreign ones", 4, 9, Bytes.module(Bytes.of(1, 0, 1, 0, 33)));
        Reading.fault("no operation before a vector's how many", 5, 17, new Parts().functions(1, Parts.function(2, Bytes.of(60, 52, 0, 65))).bytes());
        Reading.fault("a vector's how many before no operation", 3, 19, new Parts().functions(1, Parts.function(2, Bytes.of(52, 0, 65, 60))).bytes());
    }

    private static void markFirst() {
        Check.sentence("Terms", "1 one of the four first bytes is another one, there.");
        for (int why : IN_FUNCTIONS) {
            Reading.fault("1 and " + why, 1, 3, Bytes.with(module(why, 0, false).bytes(), 3, 50));
        }
        Reading.fault("1 and 2", 1, 3, Bytes.of(82, 76, 77, 50));
        Reading.fault("1 and 6", 1, 0, Bytes.with(Bytes.join(Sample.bytes(), Bytes.of(0)), 0, 0));
        Reading.fault("1 and 14", 1, 0, Bytes.with(module(0, 0, true).bytes(), 0, 0));
    }

    private static void endLast() {
        Check.sentence("Terms", "2 the tape ends before the module does, at its length.");
        for (int why : IN_FUNCTIONS) {
            Parts parts = module(why, 0, false);
            int length = parts.bytes().length - 1;
            boolean earlier = turn(why) == 1;
            Reading.fault(why + " and 2", earlier ? why : 2, earlier ? firstPlace(parts, why) : length, Bytes.cut(parts.bytes(), length));
        }
        byte[] circle = module(0, 0, true).bytes();
        Reading.fault("14 and 2", 2, circle.length - 1, Bytes.cut(circle, circle.length - 1));
        Reading.fault("a wrong number as the last byte", 3, 6, Bytes.module(Bytes.of(33)));
        Reading.fault("no type as the last byte", 4, 9, Bytes.module(Bytes.of(1, 0, 1, 0)));
        Reading.fault("no operation as the last byte", 5, 17, new Parts().functions(1, Parts.function(2, Bytes.of(60))).bytes());
        Reading.fault("too many instructions as the last bytes", 3, 15, new Parts().functions(1, Parts.function(1025)).bytes());
        Reading.fault("too many of a new vector as the last byte", 3, 19, new Parts().functions(1, Parts.function(2, Bytes.of(52, 0, 65))).bytes());
    }

    private static void behindLast() {
        Check.sentence("Terms", "6 bytes behind the module, at the first one.");
        for (int why : IN_FUNCTIONS) {
            Parts parts = module(0, why, false);
            byte[] row = Bytes.join(parts.bytes(), Bytes.of(0));
            boolean earlier = turn(why) == 1;
            Reading.fault(why + " and 6", earlier ? why : 6, earlier ? secondPlace(parts, 0, why) : row.length - 1, row);
        }
        byte[] circle = module(0, 0, true).bytes();
        Reading.fault("14 and 6", 6, circle.length, Bytes.join(circle, Bytes.of(0)));
    }

    private static void thenNames() {
        Check.sentence("Terms", "Then, from the beginning on: 7 a structure's number that is none");
        pairs(1, 2);
        pairs(2, 1);
        Reading.fault("a field's structure and the end", 2, 14, Bytes.module(Bytes.of(1, 0, 1, 6, 9, 0, 0, 0)));
        Reading.fault("a field's structure and bytes behind", 6, 15, Bytes.module(Bytes.of(1, 0, 1, 6, 9, 0, 0, 0, 0, 1)));
        Reading.fault("a field's structure alone", 7, 10, Bytes.module(Bytes.of(1, 0, 1, 6, 9, 0, 0, 0, 0)));
    }

    private static void namesFromTheBeginningOn() {
        Check.sentence("Terms", "Then, from the beginning on");
        pairs(2, 2);
        Parts parts = new Parts().structures(1, Bytes.of(0, 1, 6, 9)).foreignFunctions(1, Bytes.of(0, 0, 0, 0, 1, 6, 8, 1, 6, 7))
            .elements(1, Bytes.of(6, 6)).functions(1, Bytes.of(0, 1, 6, 5, 1, 6, 4, 1, 6, 3, 0, 1, 11, 9));
        int[] places = {parts.structuresAt() + 4, parts.foreignFunctionsAt() + 7, parts.foreignFunctionsAt() + 10,
            parts.elementsAt() + 2, parts.functionsAt() + 4, parts.functionsAt() + 7, parts.functionsAt() + 10};
        byte[] row = parts.bytes();
        for (int place : places) {
            Reading.fault("the first wrong structure is at " + place, 7, place, row);
            row = Bytes.with(row, place, 0);
        }
        int local = parts.functionsAt() + 14;
        Reading.fault("a local behind all types", 10, local, row);
        Reading.fault("the circle that the first one left", 14, 7, Bytes.with(row, local, 0));
    }

    private static void thenCircles() {
        Check.sentence("Terms", "Then: 14 a structure that contains itself");
        for (int why : IN_FUNCTIONS) {
            Parts parts = module(0, why, true);
            Reading.fault("14 and behind it " + why, why, secondPlace(parts, 0, why), parts.bytes());
        }
        Reading.fault("14 alone", 14, 7, module(0, 0, true).bytes());
    }

    private static void inOneInstruction() {
        Check.sentence("Terms", "Each at its first byte.");
        for (int operation = 16; operation <= 17; operation++) {
            Parts none = module(0, 0, false).functions(1, Parts.function(1, Bytes.of(operation, 2, 255)));
            Reading.fault(operation + ": no structure and no field", 7, none.functionsAt() + 8, none.bytes());
            Parts foreign = module(0, 0, false).functions(1, Parts.function(1, Bytes.of(operation, 1, 255)));
            Reading.fault(operation + ": a foreign structure and no field", 8, foreign.functionsAt() + 8, foreign.bytes());
            Parts own = module(0, 0, false).functions(1, Parts.function(1, Bytes.of(operation, 0, 255)));
            Reading.fault(operation + ": no field", 9, own.functionsAt() + 9, own.bytes());
        }
        Parts vector = module(0, 0, false).functions(1, Parts.function(1, Bytes.of(52, 9, 65)));
        Reading.fault("52: no element type and too many", 3, vector.functionsAt() + 9, vector.bytes());
        Parts allowed = module(0, 0, false).functions(1, Parts.function(1, Bytes.of(52, 9, 64)));
        Reading.fault("52: no element type", 12, allowed.functionsAt() + 8, allowed.bytes());
    }

    private static void refusedAtTheFirst() {
        Check.sentence("What it is", "each row of bytes is taken apart into tables, or refused at its first fault");
        for (int first = 1; first <= Faulty.LAST; first++) {
            Reading.fault("the sample with fault " + first, first, Faulty.place(first), Faulty.sample(first));
        }
    }
}
