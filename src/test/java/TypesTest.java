/** What the document's Terms say of a TYPE, with its edges: which bytes are one, how many 7s, and where references stand. */
public final class TypesTest {
    /** A module with this TYPE at one place, and the place; the type may also be none. */
    private interface Spot {
        Parts with(byte[] type);

        int place(Parts parts);
    }

    private static final Spot FIELD = spot(t -> new Parts().structures(1, Bytes.of(0, 1), t), p -> p.structuresAt() + 3);
    private static final Spot LAST_FIELD = spot(t -> new Parts().structures(1, Bytes.of(0, 16), Bytes.repeated(15, 1), t),
        p -> p.structuresAt() + 18);
    private static final Spot ELEMENT = spot(t -> new Parts().elements(1, t), p -> p.elementsAt() + 1);
    private static final Spot FOREIGN_TAKEN = spot(
        t -> new Parts().foreignFunctions(1, Bytes.of(0, 0, 0, 0, 1), t, Bytes.of(0)), p -> p.foreignFunctionsAt() + 6);
    private static final Spot FOREIGN_GIVEN = spot(
        t -> new Parts().foreignFunctions(1, Bytes.of(0, 0, 0, 0, 0, 1), t), p -> p.foreignFunctionsAt() + 7);
    private static final Spot TAKEN = spot(
        t -> new Parts().functions(1, Bytes.of(0, 1), t, Bytes.of(0, 0, 0, 1, 0)), p -> p.functionsAt() + 3);
    private static final Spot GIVEN = spot(
        t -> new Parts().functions(1, Bytes.of(0, 0, 1), t, Bytes.of(0, 0, 1, 0)), p -> p.functionsAt() + 4);
    private static final Spot FURTHER = spot(
        t -> new Parts().functions(1, Bytes.of(0, 0, 0, 1), t, Bytes.of(0, 1, 0)), p -> p.functionsAt() + 5);
    private static final Spot[] OUTSIDE = {FIELD, LAST_FIELD, ELEMENT};
    private static final Spot[] LISTS = {FOREIGN_TAKEN, FOREIGN_GIVEN, TAKEN, GIVEN, FURTHER};
    private static final Spot[] ALL = {FIELD, LAST_FIELD, ELEMENT, FOREIGN_TAKEN, FOREIGN_GIVEN, TAKEN, GIVEN, FURTHER};

    private interface Making {
        Parts with(byte[] type);
    }

    private interface Placing {
        int in(Parts parts);
    }

    private static Spot spot(Making making, Placing placing) {
        return new Spot() {
            @Override
            public Parts with(byte[] type) {
                return making.with(type);
            }

            @Override
            public int place(Parts parts) {
                return placing.in(parts);
            }
        };
    }

    public static void main(String[] args) {
        plainTypes();
        structures();
        vectors();
        references();
        withoutSuch();
        onlyInLists();
        whichMayBeReferences();
        toldAsALong();
        noTypeThere();
        fifthVector();
        typesThatEnd();
        Check.end();
    }

    private static void fine(String name, Spot spot, byte[] type) {
        Reading.fine(name, spot.with(type).bytes());
    }

    /** The fault is so many bytes behind the type's beginning. */
    private static void fault(String name, int why, Spot spot, int behind, byte[] type) {
        Parts parts = spot.with(type);
        Reading.fault(name, why, spot.place(parts) + behind, parts.bytes());
    }

    private static void plainTypes() {
        Check.sentence("Terms", "1 truth, 2 byte, 3 long, 4 wide, 5 address");
        for (Spot spot : ALL) {
            for (int type = 1; type <= 5; type++) {
                fine("type " + type, spot, Bytes.of(type));
            }
            fault("type 0", 4, spot, 0, Bytes.of(0));
        }
    }

    private static void structures() {
        Check.sentence("Terms", "6 and a byte, the number of a structure");
        byte[] two = Bytes.of(0, 0, 0, 0, 0, 0, 0, 0);
        for (Spot spot : ALL) {
            int last = spot == FIELD || spot == LAST_FIELD ? 2 : 1;
            Reading.fine("type 6 1", spot.with(Bytes.of(6, 1)).foreignStructures(2, two).bytes());
            Reading.fine("type 6 " + last, spot.with(Bytes.of(6, last)).foreignStructures(2, two).bytes());
            Parts behind = spot.with(Bytes.of(6, last + 1)).foreignStructures(2, two);
            Reading.fault("type 6 " + (last + 1), 7, spot.place(behind) + 1, behind.bytes());
            fault("type 6 255", 7, spot, 1, Bytes.of(6, 255));
        }
    }

    private static void vectors() {
        Check.sentence("Terms", "7 and a TYPE (a vector of it; at most four 7s)");
        for (Spot spot : ALL) {
            for (int sevens = 1; sevens <= 4; sevens++) {
                fine(sevens + " vectors", spot, Bytes.join(Bytes.repeated(sevens, 7), Bytes.of(1)));
                fault(sevens + " vectors of 0", 4, spot, sevens, Bytes.join(Bytes.repeated(sevens, 7), Bytes.of(0)));
            }
            fault("5 vectors", 4, spot, 4, Bytes.of(7, 7, 7, 7, 7, 1));
            fault("6 vectors", 4, spot, 4, Bytes.of(7, 7, 7, 7, 7, 7, 1));
        }
    }

    private static void references() {
        Check.sentence("Terms", "8 or 9 and a TYPE without such (a reference, or one that may write)");
        for (Spot spot : LISTS) {
            for (int reference = 8; reference <= 9; reference++) {
                for (int type = 1; type <= 5; type++) {
                    fine(reference + " " + type, spot, Bytes.of(reference, type));
                }
                for (int sevens = 1; sevens <= 4; sevens++) {
                    fine(reference + " and " + sevens + " vectors", spot,
                        Bytes.join(Bytes.of(reference), Bytes.repeated(sevens, 7), Bytes.of(1)));
                }
                fault(reference + " and 5 vectors", 4, spot, 5, Bytes.of(reference, 7, 7, 7, 7, 7, 1));
                fault(reference + " and 0", 4, spot, 1, Bytes.of(reference, 0));
                fault(reference + " and 10", 4, spot, 1, Bytes.of(reference, 10));
                fault(reference + " and a structure that is none", 7, spot, 2, Bytes.of(reference, 6, 9));
            }
        }
    }

    private static void withoutSuch() {
        Check.sentence("Terms", "a TYPE without such");
        for (Spot spot : LISTS) {
            for (int outer = 8; outer <= 9; outer++) {
                for (int inner = 8; inner <= 9; inner++) {
                    fault(outer + " " + inner, 4, spot, 1, Bytes.of(outer, inner, 1));
                    fault(outer + " 7 " + inner, 4, spot, 2, Bytes.of(outer, 7, inner, 1));
                    fault(outer + " 7 7 7 7 " + inner, 4, spot, 5, Bytes.of(outer, 7, 7, 7, 7, inner, 1));
                }
            }
        }
    }

    private static void onlyInLists() {
        Check.sentence("Terms", "only in LISTS");
        for (Spot spot : OUTSIDE) {
            for (int reference = 8; reference <= 9; reference++) {
                fault(reference + " outside lists", 4, spot, 0, Bytes.of(reference, 1));
                fault("7 " + reference + " outside lists", 4, spot, 1, Bytes.of(7, reference, 1));
                fault("7 7 7 7 " + reference + " outside lists", 4, spot, 4, Bytes.of(7, 7, 7, 7, reference, 1));
            }
        }
    }

    /** The TYPES of a LIST may be references; a vector of references is none. */
    private static void whichMayBeReferences() {
        Check.sentence("Terms", "TYPES, which may be references.");
        for (Spot spot : LISTS) {
            for (int reference = 8; reference <= 9; reference++) {
                fine("a listed " + reference, spot, Bytes.of(reference, 3));
                fault("a listed 7 " + reference, 4, spot, 1, Bytes.of(7, reference, 3));
            }
        }
    }

    private static void toldAsALong() {
        Check.sentence("Terms", "It is told as a long: its bytes, the last one lowest.");
        byte[][] types = {Bytes.of(1), Bytes.of(5), Bytes.of(7, 2), Bytes.of(6, 1), Bytes.of(7, 7, 7, 7, 6, 2)};
        long[] want = {1, 5, 0x0702, 0x0601, 0x070707070602L};
        byte[] two = Bytes.of(0, 0, 0, 0, 0, 0, 0, 0);
        for (int i = 0; i < types.length; i++) {
            CodeTables x = Reading.read("type " + i, new Parts().structures(1, Bytes.of(0, 1), types[i]).foreignStructures(2, two)
                .elements(1, types[i]).functions(1, Bytes.of(0, 1), types[i], Bytes.of(1, 8), types[i], Bytes.of(1, 9), types[i],
                Bytes.of(0, 1, 0)).bytes());
            long top = 1L << 8 * types[i].length;
            Check.due("field(0, 0), type " + i, x.field(0, 0), want[i]);
            Check.due("element(0), type " + i, x.element(0), want[i]);
            Check.due("listed(0, 0, 0), type " + i, x.listed(0, 0, 0), want[i]);
            Check.due("listed(0, 1, 0), a reference to type " + i, x.listed(0, 1, 0), 8 * top + want[i]);
            Check.due("listed(0, 2, 0), a writing reference to type " + i, x.listed(0, 2, 0), 9 * top + want[i]);
        }
        CodeTables zero = Reading.read("structure 0", new Parts().structures(1, Bytes.of(0, 1, 1)).elements(1, Bytes.of(6, 0)).bytes());
        Check.due("element(0), structure 0", zero.element(0), 0x0600);
    }

    private static void noTypeThere() {
        Check.sentence("Terms", "4 a byte that is no TYPE there (also a fifth 7), at it.");
        for (int type = 0; type <= 255; type++) {
            if (type >= 1 && type <= 7) {
                continue;
            }
            for (Spot spot : OUTSIDE) {
                fault("type " + type, 4, spot, 0, Bytes.of(type, 1));
            }
            for (Spot spot : LISTS) {
                if (type != 8 && type != 9) {
                    fault("type " + type, 4, spot, 0, Bytes.of(type, 1));
                }
                fault("a reference to " + type, 4, spot, 1, Bytes.of(8, type, 1));
                fault("a vector of " + type, 4, spot, 1, Bytes.of(7, type, 1));
            }
        }
    }

    private static void fifthVector() {
        Check.sentence("Terms", "also a fifth 7");
        for (Spot spot : ALL) {
            fault("a fifth 7 at the end of the tape", 4, spot, 4, Bytes.of(7, 7, 7, 7, 7));
            Parts parts = spot.with(Bytes.of(7, 7, 7, 7, 7));
            int fifth = spot.place(parts) + 4;
            Reading.fault("a fifth 7 as the last byte", 4, fifth, Bytes.cut(parts.bytes(), fifth + 1));
            Reading.fault("four 7s as the last bytes", 2, fifth, Bytes.cut(parts.bytes(), fifth));
        }
    }

    private static void typesThatEnd() {
        Check.sentence("Terms", "2 the tape ends before the module does, at its length.");
        for (Spot spot : ALL) {
            Parts parts = spot.with(Bytes.of(7, 6, 0));
            int place = spot.place(parts);
            for (int behind = 0; behind <= 2; behind++) {
                Reading.fault("a type of which " + behind + " bytes are there", 2, place + behind, Bytes.cut(parts.bytes(), place + behind));
            }
        }
        for (Spot spot : LISTS) {
            Parts parts = spot.with(Bytes.of(8, 1));
            int place = spot.place(parts);
            Reading.fault("a reference of which a byte is there", 2, place + 1, Bytes.cut(parts.bytes(), place + 1));
        }
    }
}
