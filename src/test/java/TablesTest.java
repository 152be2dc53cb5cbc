/** Promises 5 to 7 and 10, sentence by sentence: told, structure, field, element. */
public final class TablesTest {
    private static final int BAD = CodeTables.BAD;
    private static final byte[] EMPTY = new Parts().bytes();

    public static void main(String[] args) {
        counts();
        noSuchCount();
        structures();
        ownHasNoModule();
        noSuchStructure();
        fields();
        noSuchField();
        elements();
        noSuchElement();
        nothingIsLeft();
        Check.end();
    }

    private static CodeTables sample() {
        return Reading.read("the sample", Sample.bytes());
    }

    /** 32 own structures of 16 fields, 32 foreign ones, 32 element types; a type tells where it stands. */
    private static byte[] full() {
        byte[][] own = new byte[32][];
        byte[][] foreign = new byte[32][];
        for (int k = 0; k < 32; k++) {
            own[k] = Bytes.join(Bytes.of(k % 16, 16), Bytes.repeated(15, 6, 32 + k), Bytes.of(4));
            foreign[k] = Bytes.of(k, 255 - k, 200 + k, 15 - k % 16);
        }
        return new Parts().structures(32, own).foreignStructures(32, foreign)
            .elements(32, Bytes.repeated(31, 7, 2), Bytes.of(5)).bytes();
    }

    private static void counts() {
        Check.sentence("Promise 5", "Of THE MODULE: what = 0 its number, 1 how many structures, 2 foreign ones, "
            + "3 foreign functions, 4 element types, 5 functions, 6 instructions in all.");
        CodeTables x = sample();
        int[] want = {0x1234, 2, 2, 2, 3, 2, 13};
        for (int what = 0; what < want.length; what++) {
            Check.due("told(" + what + ")", x.told(what), want[what]);
        }
        CodeTables empty = Reading.read("the empty one", EMPTY);
        Check.due("the empty one: told(0)", empty.told(0), 7);
        for (int what = 1; what <= 6; what++) {
            Check.due("the empty one: told(" + what + ")", empty.told(what), 0);
        }
    }

    private static void noSuchCount() {
        Check.sentence("Promise 5", "BAD for another what, or when there is none.");
        CodeTables x = sample();
        Check.due("told(-1)", x.told(-1), BAD);
        Check.due("told(7)", x.told(7), BAD);
        for (int what : Far.AWAY) {
            Check.due("told(" + what + ")", x.told(what), BAD);
        }
        CodeTables none = new CodeTables();
        for (int what = -1; what <= 7; what++) {
            Check.due("told(" + what + ") before the first read()", none.told(what), BAD);
        }
        none.read();
        for (int what = -1; what <= 7; what++) {
            Check.due("told(" + what + ") behind a fault", none.told(what), BAD);
        }
    }

    private static void structures() {
        Check.sentence("Promise 6", "Of structure k (also a foreign one): what = 0 abilities, 1 how many fields "
            + "(0 for a foreign one), 2 the module (for a foreign one; else BAD), 3 its number there (likewise).");
        CodeTables x = sample();
        int[][] want = {{15, 3, BAD, BAD}, {0, 1, BAD, BAD}, {8, 0, 0xFFFE, 255}, {0, 0, 9, 0}};
        for (int k = 0; k < want.length; k++) {
            for (int what = 0; what < 4; what++) {
                Check.due("structure(" + k + ", " + what + ")", x.structure(k, what), want[k][what]);
            }
        }
        CodeTables y = Reading.read("full", full());
        for (int k : new int[] {0, 1, 30, 31}) {
            Check.due("full: structure(" + k + ", 0)", y.structure(k, 0), k % 16);
            Check.due("full: structure(" + k + ", 1)", y.structure(k, 1), 16);
            Check.due("full: structure(" + (32 + k) + ", 0)", y.structure(32 + k, 0), 15 - k % 16);
            Check.due("full: structure(" + (32 + k) + ", 1)", y.structure(32 + k, 1), 0);
            Check.due("full: structure(" + (32 + k) + ", 2)", y.structure(32 + k, 2), 256 * k + 255 - k);
            Check.due("full: structure(" + (32 + k) + ", 3)", y.structure(32 + k, 3), 200 + k);
        }
    }

    private static void ownHasNoModule() {
        Check.sentence("Promise 6", "for a foreign one; else BAD");
        CodeTables x = Reading.read("full", full());
        for (int k = 0; k < 32; k++) {
            Check.due("full: structure(" + k + ", 2)", x.structure(k, 2), BAD);
            Check.due("full: structure(" + k + ", 3)", x.structure(k, 3), BAD);
        }
    }

    private static void noSuchStructure() {
        Check.sentence("Promise 6", "BAD when there is none such.");
        CodeTables x = sample();
        CodeTables y = Reading.read("full", full());
        CodeTables empty = Reading.read("the empty one", EMPTY);
        for (int what = -1; what <= 4; what++) {
            Check.due("structure(-1, " + what + ")", x.structure(-1, what), BAD);
            Check.due("structure(4, " + what + ")", x.structure(4, what), BAD);
            Check.due("full: structure(-1, " + what + ")", y.structure(-1, what), BAD);
            Check.due("full: structure(64, " + what + ")", y.structure(64, what), BAD);
            Check.due("the empty one: structure(0, " + what + ")", empty.structure(0, what), BAD);
        }
        for (int k = 0; k < 4; k++) {
            Check.due("structure(" + k + ", -1)", x.structure(k, -1), BAD);
            Check.due("structure(" + k + ", 4)", x.structure(k, 4), BAD);
        }
        Check.due("full: structure(63, -1)", y.structure(63, -1), BAD);
        Check.due("full: structure(63, 4)", y.structure(63, 4), BAD);
        for (int far : Far.AWAY) {
            Check.due("structure(" + far + ", 0)", x.structure(far, 0), BAD);
            Check.due("structure(0, " + far + ")", x.structure(0, far), BAD);
            Check.due("full: structure(63, " + far + ")", y.structure(63, far), BAD);
        }
    }

    private static void fields() {
        Check.sentence("Promise 7", "The TYPE of field i of structure k");
        CodeTables x = sample();
        Check.due("field(0, 0)", x.field(0, 0), 1);
        Check.due("field(0, 1)", x.field(0, 1), 0x070601);
        Check.due("field(0, 2)", x.field(0, 2), 0x0707070705L);
        Check.due("field(1, 0)", x.field(1, 0), 0x0603);
        CodeTables y = Reading.read("full", full());
        for (int k : new int[] {0, 1, 30, 31}) {
            Check.due("full: field(" + k + ", 0)", y.field(k, 0), 0x0600 + 32 + k);
            Check.due("full: field(" + k + ", 14)", y.field(k, 14), 0x0600 + 32 + k);
            Check.due("full: field(" + k + ", 15)", y.field(k, 15), 4);
        }
    }

    private static void noSuchField() {
        Check.sentence("Promise 7", "0 when there is none.");
        CodeTables x = sample();
        Check.due("field(0, -1)", x.field(0, -1), 0);
        Check.due("field(0, 3)", x.field(0, 3), 0);
        Check.due("field(1, -1)", x.field(1, -1), 0);
        Check.due("field(1, 1)", x.field(1, 1), 0);
        Check.due("field(2, 0) of a foreign structure", x.field(2, 0), 0);
        Check.due("field(3, 0) of a foreign structure", x.field(3, 0), 0);
        Check.due("field(4, 0) of no structure", x.field(4, 0), 0);
        Check.due("field(-1, 0) of no structure", x.field(-1, 0), 0);
        for (int far : Far.AWAY) {
            Check.due("field(" + far + ", 0)", x.field(far, 0), 0);
            Check.due("field(0, " + far + ")", x.field(0, far), 0);
            Check.due("field(2, " + far + ")", x.field(2, far), 0);
        }
        CodeTables y = Reading.read("full", full());
        for (int k : new int[] {0, 30, 31}) {
            Check.due("full: field(" + k + ", -1)", y.field(k, -1), 0);
            Check.due("full: field(" + k + ", 16)", y.field(k, 16), 0);
        }
        Check.due("full: field(32, 0) of a foreign structure", y.field(32, 0), 0);
        Check.due("full: field(63, 0) of a foreign structure", y.field(63, 0), 0);
        Check.due("full: field(64, 0) of no structure", y.field(64, 0), 0);
        Check.due("no module: field(0, 0)", new CodeTables().field(0, 0), 0);
    }

    private static void elements() {
        Check.sentence("Promise 10", "Element type k");
        CodeTables x = sample();
        Check.due("element(0)", x.element(0), 2);
        Check.due("element(1)", x.element(1), 0x070603);
        Check.due("element(2)", x.element(2), 0x0600);
        CodeTables y = Reading.read("full", full());
        Check.due("full: element(0)", y.element(0), 0x0702);
        Check.due("full: element(30)", y.element(30), 0x0702);
        Check.due("full: element(31)", y.element(31), 5);
    }

    private static void noSuchElement() {
        Check.sentence("Promise 10", "0 when there is none.");
        CodeTables x = sample();
        Check.due("element(-1)", x.element(-1), 0);
        Check.due("element(3)", x.element(3), 0);
        for (int far : Far.AWAY) {
            Check.due("element(" + far + ")", x.element(far), 0);
        }
        CodeTables y = Reading.read("full", full());
        Check.due("full: element(-1)", y.element(-1), 0);
        Check.due("full: element(32)", y.element(32), 0);
        Check.due("the empty one: element(0)", Reading.read("the empty one", EMPTY).element(0), 0);
        Check.due("no module: element(0)", new CodeTables().element(0), 0);
    }

    private static void nothingIsLeft() {
        Check.sentence("Promise 3", "its module is THE MODULE");
        CodeTables x = Reading.read("full", full());
        Bytes.type(x, new Parts().structures(1, Bytes.of(3, 1, 1)).foreignStructures(1, Bytes.of(0, 5, 6, 4)).bytes());
        Check.due("read() of a smaller one", x.read(), 0);
        int[][] want = {{3, 1, BAD, BAD}, {4, 0, 5, 6}, {BAD, BAD, BAD, BAD}};
        for (int k = 0; k < want.length; k++) {
            for (int what = 0; what < 4; what++) {
                Check.due("smaller: structure(" + k + ", " + what + ")", x.structure(k, what), want[k][what]);
            }
        }
        Check.due("smaller: structure(63, 0)", x.structure(63, 0), BAD);
        Check.due("smaller: field(0, 0)", x.field(0, 0), 1);
        Check.due("smaller: field(0, 1)", x.field(0, 1), 0);
        Check.due("smaller: field(1, 0)", x.field(1, 0), 0);
        Check.due("smaller: element(0)", x.element(0), 0);
    }
}
