/** Promises 8, 9, 11 and 12, sentence by sentence: function, listed, operation, operand. */
public final class FunctionsTest {
    private static final int BAD = CodeTables.BAD;
    private static final byte[] EMPTY = new Parts().bytes();
    private static final int[] EDGES = {0, 1, 62, 63, 64, 65, 94, 95};

    public static void main(String[] args) {
        functions();
        ownHasNoModule();
        foreignHasNeither();
        noSuchFunction();
        lists();
        noSuchListed();
        operations();
        noSuchOperation();
        operands();
        noSuchOperand();
        nothingIsLeft();
        Check.end();
    }

    private static CodeTables sample() {
        return Reading.read("the sample", Sample.bytes());
    }

    /** 64 functions and 32 foreign ones; those on the edges have full lists, and their types tell where they stand. */
    private static byte[] full() {
        byte[][] own = new byte[64][];
        byte[][] foreign = new byte[32][];
        for (int f = 0; f < 64; f++) {
            own[f] = Bytes.join(Bytes.of(f % 8), list(f, 0), list(f, 1), list(f, 2), Bytes.of(0, 2, 5, f, 5, 255 - f));
        }
        for (int f = 64; f < 96; f++) {
            foreign[f - 64] = Bytes.join(Bytes.of(f, 255 - f, 100 + f, f % 8), list(f, 0), list(f, 1));
        }
        return new Parts().structures(32, Bytes.repeated(32, 0, 1, 1)).foreignStructures(32, Bytes.repeated(32, 0, 0, 0, 0))
            .foreignFunctions(32, foreign).functions(64, own).bytes();
    }

    private static boolean onAnEdge(int f) {
        for (int edge : EDGES) {
            if (f == edge) {
                return true;
            }
        }
        return false;
    }

    private static int listLength(int f, int list) {
        return !onAnEdge(f) || f >= 64 && list == 2 ? 0 : list == 2 ? 32 : 8;
    }

    private static int structureOf(int f, int list, int i) {
        return (f * 5 + list * 8 + i) % 64;
    }

    private static byte[] list(int f, int list) {
        byte[][] types = new byte[listLength(f, list)][];
        for (int i = 0; i < types.length; i++) {
            types[i] = Bytes.of(6, structureOf(f, list, i));
        }
        return Parts.counted(types.length, types);
    }

    private static CodeTables fullOne() {
        return Reading.read("full", full());
    }

    private static void functions() {
        Check.sentence("Promise 8", "Of function f (also a foreign one): what = 0 flags, 1 how many it takes, 2 gives, "
            + "3 further locals, 4 instructions (both 0 for a foreign one), 5 the module (for a foreign one; else BAD), "
            + "6 its number there (likewise).");
        CodeTables x = sample();
        int[][] want = {
            {5, 1, 2, 2, 12, BAD, BAD}, {0, 0, 0, 0, 1, BAD, BAD}, {7, 2, 1, 0, 0, 0x0102, 250}, {0, 0, 0, 0, 0, 0, 0}};
        for (int f = 0; f < want.length; f++) {
            for (int what = 0; what < 7; what++) {
                Check.due("function(" + f + ", " + what + ")", x.function(f, what), want[f][what]);
            }
        }
        CodeTables y = fullOne();
        for (int f : EDGES) {
            boolean foreign = f >= 64;
            int[] facts = {f % 8, 8, 8, foreign ? 0 : 32, foreign ? 0 : 2,
                foreign ? f * 256 + 255 - f : BAD, foreign ? 100 + f : BAD};
            for (int what = 0; what < 7; what++) {
                Check.due("full: function(" + f + ", " + what + ")", y.function(f, what), facts[what]);
            }
        }
    }

    private static void ownHasNoModule() {
        Check.sentence("Promise 8", "for a foreign one; else BAD");
        CodeTables x = fullOne();
        for (int f = 0; f < 64; f += 7) {
            Check.due("full: function(" + f + ", 5)", x.function(f, 5), BAD);
            Check.due("full: function(" + f + ", 6)", x.function(f, 6), BAD);
        }
    }

    private static void foreignHasNeither() {
        Check.sentence("Promise 8", "both 0 for a foreign one");
        CodeTables x = fullOne();
        for (int f = 64; f < 96; f++) {
            Check.due("full: function(" + f + ", 3)", x.function(f, 3), 0);
            Check.due("full: function(" + f + ", 4)", x.function(f, 4), 0);
        }
    }

    private static void noSuchFunction() {
        Check.sentence("Promise 8", "BAD when there is none such.");
        CodeTables x = sample();
        CodeTables y = fullOne();
        CodeTables empty = Reading.read("the empty one", EMPTY);
        for (int what = -1; what <= 7; what++) {
            Check.due("function(-1, " + what + ")", x.function(-1, what), BAD);
            Check.due("function(4, " + what + ")", x.function(4, what), BAD);
            Check.due("full: function(-1, " + what + ")", y.function(-1, what), BAD);
            Check.due("full: function(96, " + what + ")", y.function(96, what), BAD);
            Check.due("the empty one: function(0, " + what + ")", empty.function(0, what), BAD);
        }
        for (int f = 0; f < 4; f++) {
            Check.due("function(" + f + ", -1)", x.function(f, -1), BAD);
            Check.due("function(" + f + ", 7)", x.function(f, 7), BAD);
        }
        for (int far : Far.AWAY) {
            Check.due("function(" + far + ", 0)", x.function(far, 0), BAD);
            Check.due("function(0, " + far + ")", x.function(0, far), BAD);
            Check.due("function(3, " + far + ")", x.function(3, far), BAD);
        }
        Check.due("full: function(95, -1)", y.function(95, -1), BAD);
        Check.due("full: function(95, 7)", y.function(95, 7), BAD);
    }

    private static void lists() {
        Check.sentence("Promise 9", "The TYPE number i of what function f takes (list = 0), gives (1), or of its further locals (2)");
        CodeTables x = sample();
        long[][][] want = {
            {{3}, {0x090702, 2}, {0x0804, 0x0601}}, {{}, {}, {}}, {{0x090602, 4}, {0x08070707070600L}, {}}, {{}, {}, {}}};
        for (int f = 0; f < want.length; f++) {
            for (int list = 0; list < 3; list++) {
                for (int i = 0; i < want[f][list].length; i++) {
                    Check.due("listed(" + f + ", " + list + ", " + i + ")", x.listed(f, list, i), want[f][list][i]);
                }
            }
        }
        for (int f : EDGES) {
            CodeTables y = fullOne();
            for (int list = 0; list < 3; list++) {
                for (int i = 0; i < listLength(f, list); i++) {
                    Check.due("full: listed(" + f + ", " + list + ", " + i + ")", y.listed(f, list, i), 0x0600 + structureOf(f, list, i));
                }
            }
        }
    }

    private static void noSuchListed() {
        Check.sentence("Promise 9", "0 when there is none.");
        CodeTables x = sample();
        int[][] lengths = {{1, 2, 2}, {0, 0, 0}, {2, 1, 0}, {0, 0, 0}, {0, 0, 0}};
        for (int f = 0; f < lengths.length; f++) {
            for (int list = 0; list < 3; list++) {
                Check.due("listed(" + f + ", " + list + ", -1)", x.listed(f, list, -1), 0);
                Check.due("listed(" + f + ", " + list + ") behind the last", x.listed(f, list, lengths[f][list]), 0);
            }
            Check.due("listed(" + f + ", -1, 0)", x.listed(f, -1, 0), 0);
            Check.due("listed(" + f + ", 3, 0)", x.listed(f, 3, 0), 0);
        }
        Check.due("listed(-1, 0, 0)", x.listed(-1, 0, 0), 0);
        for (int far : Far.AWAY) {
            Check.due("listed(" + far + ", 0, 0)", x.listed(far, 0, 0), 0);
            Check.due("listed(0, " + far + ", 0)", x.listed(0, far, 0), 0);
            Check.due("listed(0, 0, " + far + ")", x.listed(0, 0, far), 0);
            Check.due("listed(2, 2, " + far + ")", x.listed(2, 2, far), 0);
        }
        CodeTables y = fullOne();
        for (int f : EDGES) {
            for (int list = 0; list < 3; list++) {
                Check.due("full: listed(" + f + ", " + list + ", -1)", y.listed(f, list, -1), 0);
                Check.due("full: listed(" + f + ", " + list + ") behind the last", y.listed(f, list, listLength(f, list)), 0);
            }
            Check.due("full: listed(" + f + ", -1, 8)", y.listed(f, -1, 8), 0);
            Check.due("full: listed(" + f + ", 3, 0)", y.listed(f, 3, 0), 0);
        }
        Check.due("full: listed(96, 0, 0)", y.listed(96, 0, 0), 0);
        Check.due("no module: listed(0, 0, 0)", new CodeTables().listed(0, 0, 0), 0);
    }

    private static void operations() {
        Check.sentence("Promise 11", "The operation of instruction i of function f");
        CodeTables x = sample();
        int[] want = {5, 11, 15, 16, 21, 23, 52, 58, 4, 10, 7, 59};
        for (int i = 0; i < want.length; i++) {
            Check.due("operation(0, " + i + ")", x.operation(0, i), want[i]);
        }
        Check.due("operation(1, 0)", x.operation(1, 0), 1);
        byte[] code = Bytes.join(Bytes.of(59), Bytes.repeated(1022, 0), Bytes.of(1));
        CodeTables y = Reading.read("1024", new Parts().functions(2, Parts.shortest(), Parts.function(1024, code)).bytes());
        Check.due("1024: operation(1, 0)", y.operation(1, 0), 59);
        Check.due("1024: operation(1, 1022)", y.operation(1, 1022), 0);
        Check.due("1024: operation(1, 1023)", y.operation(1, 1023), 1);
        Check.due("1024: operation(1, 1024)", y.operation(1, 1024), BAD);
        Check.due("1024: operation(0, 1)", y.operation(0, 1), BAD);
    }

    private static void noSuchOperation() {
        Check.sentence("Promise 11", "BAD when there is none.");
        CodeTables x = sample();
        Check.due("operation(0, -1)", x.operation(0, -1), BAD);
        Check.due("operation(0, 12), where function 1 goes on", x.operation(0, 12), BAD);
        Check.due("operation(1, -1), where function 0 ends", x.operation(1, -1), BAD);
        Check.due("operation(1, 1)", x.operation(1, 1), BAD);
        Check.due("operation(-1, 0)", x.operation(-1, 0), BAD);
        Check.due("operation(2, 0) of a foreign function", x.operation(2, 0), BAD);
        Check.due("operation(3, 0) of a foreign function", x.operation(3, 0), BAD);
        Check.due("operation(4, 0) of no function", x.operation(4, 0), BAD);
        for (int far : Far.AWAY) {
            Check.due("operation(" + far + ", 0)", x.operation(far, 0), BAD);
            Check.due("operation(0, " + far + ")", x.operation(0, far), BAD);
            Check.due("operation(1, " + far + ")", x.operation(1, far), BAD);
        }
        CodeTables y = fullOne();
        Check.due("full: operation(63, 2)", y.operation(63, 2), BAD);
        Check.due("full: operation(64, 0)", y.operation(64, 0), BAD);
        Check.due("full: operation(95, 0)", y.operation(95, 0), BAD);
        Check.due("the empty one: operation(0, 0)", Reading.read("the empty one", EMPTY).operation(0, 0), BAD);
        Check.due("no module: operation(0, 0)", new CodeTables().operation(0, 0), BAD);
    }

    private static void operands() {
        Check.sentence("Promise 12", "Its operand: the byte, SHORT or LONG, or the first one (which = 0) or second one (1) of two");
        CodeTables x = sample();
        long[][] want = {
            {200, 0}, {0, 0}, {2, 0}, {0, 2}, {1, 0}, {3, 0}, {2, 64}, {1, 0}, {11, 0}, {0x8001020304050607L, 0}, {-2, 9}, {0, 0}};
        for (int i = 0; i < want.length; i++) {
            Check.due("operand(0, " + i + ", 0)", x.operand(0, i, 0), want[i][0]);
            Check.due("operand(0, " + i + ", 1)", x.operand(0, i, 1), want[i][1]);
        }
        CodeTables y = fullOne();
        for (int f = 0; f < 64; f += 9) {
            Check.due("full: operand(" + f + ", 0, 0)", y.operand(f, 0, 0), f);
            Check.due("full: operand(" + f + ", 1, 0)", y.operand(f, 1, 0), 255 - f);
        }
    }

    private static void noSuchOperand() {
        Check.sentence("Promise 12", "0 when there is none (also for 1 of a single one, and another which).");
        CodeTables x = sample();
        for (int i = 0; i < 12; i++) {
            Check.due("operand(0, " + i + ", 2)", x.operand(0, i, 2), 0);
            Check.due("operand(0, " + i + ", -1)", x.operand(0, i, -1), 0);
        }
        for (int i : new int[] {0, 1, 2, 4, 5, 7, 8, 9}) {
            Check.due("operand(0, " + i + ", 1) of a single one", x.operand(0, i, 1), 0);
        }
        Check.due("operand(0, 11, 0) without operands", x.operand(0, 11, 0), 0);
        Check.due("operand(0, 11, 1) without operands", x.operand(0, 11, 1), 0);
        Check.due("operand(1, 0, 0) without operands", x.operand(1, 0, 0), 0);
        for (int far : Far.AWAY) {
            Check.due("operand(" + far + ", 0, 0)", x.operand(far, 0, 0), 0);
            Check.due("operand(0, " + far + ", 0)", x.operand(0, far, 0), 0);
            Check.due("operand(0, 10, " + far + ")", x.operand(0, 10, far), 0);
        }
        CodeTables y = fullOne();
        for (int which = 0; which <= 1; which++) {
            Check.due("full: operand(0, -1, " + which + ")", y.operand(0, -1, which), 0);
            Check.due("full: operand(1, 2, " + which + ")", y.operand(1, 2, which), 0);
            Check.due("full: operand(2, -1, " + which + ")", y.operand(2, -1, which), 0);
            Check.due("full: operand(-1, 0, " + which + ")", y.operand(-1, 0, which), 0);
            Check.due("full: operand(64, 0, " + which + ") of a foreign function", y.operand(64, 0, which), 0);
            Check.due("full: operand(96, 0, " + which + ") of no function", y.operand(96, 0, which), 0);
            Check.due("no module: operand(0, 0, " + which + ")", new CodeTables().operand(0, 0, which), 0);
        }
    }

    private static void nothingIsLeft() {
        Check.sentence("Promise 3", "its module is THE MODULE");
        CodeTables x = sample();
        Bytes.type(x, new Parts().foreignFunctions(1, Bytes.of(0, 8, 2, 1, 0, 0)).functions(1, Parts.shortest()).bytes());
        Check.due("read() of a smaller one", x.read(), 0);
        int[][] want = {{0, 0, 0, 0, 1, BAD, BAD}, {1, 0, 0, 0, 0, 8, 2}, {BAD, BAD, BAD, BAD, BAD, BAD, BAD}};
        for (int f = 0; f < want.length; f++) {
            for (int what = 0; what < 7; what++) {
                Check.due("smaller: function(" + f + ", " + what + ")", x.function(f, what), want[f][what]);
            }
            for (int list = 0; list < 3; list++) {
                Check.due("smaller: listed(" + f + ", " + list + ", 0)", x.listed(f, list, 0), 0);
            }
            Check.due("smaller: operation(" + f + ", 0)", x.operation(f, 0), f == 0 ? 0 : BAD);
            Check.due("smaller: operand(" + f + ", 0, 0)", x.operand(f, 0, 0), 0);
            Check.due("smaller: operation(" + f + ", 1)", x.operation(f, 1), BAD);
            Check.due("smaller: operand(" + f + ", 1, 0)", x.operand(f, 1, 0), 0);
        }
        Check.due("smaller: told(6)", x.told(6), 1);
    }
}
