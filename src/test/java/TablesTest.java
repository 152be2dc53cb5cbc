/** Promises 5 to 12: what is told of a module's tables. */
public final class TablesTest {
    private static final int BAD = CodeTables.BAD;
    private static final int[] FAR = {Integer.MIN_VALUE, -256, -1, 256, 65536, 1 << 26, Integer.MAX_VALUE};

    public static void main(String[] args) {
        Check.due("the sample's length", Sample.bytes().length, Sample.LENGTH);
        counts();
        structures();
        fields();
        functions();
        lists();
        fullLists();
        elements();
        operations();
        operands();
        noneBehindAFault();
        nothingIsLeftOfAnEarlierModule();
        Check.end();
    }

    private static CodeTables sample() {
        CodeTables x = Bytes.typed(Sample.bytes());
        Check.due("read() of the sample", x.read(), 0);
        return x;
    }

    private static void counts() {
        CodeTables x = sample();
        int[] want = {0x1234, 2, 2, 2, 3, 2, 13};
        for (int what = 0; what < want.length; what++) {
            Check.due("told(" + what + ")", x.told(what), want[what]);
        }
        Check.due("told(7)", x.told(7), BAD);
        for (int what : FAR) {
            Check.due("told(" + what + ")", x.told(what), BAD);
        }
    }

    private static void structures() {
        CodeTables x = sample();
        int[][] want = {{15, 3, BAD, BAD}, {0, 1, BAD, BAD}, {8, 0, 0xFFFE, 255}, {0, 0, 9, 0}};
        for (int k = 0; k < want.length; k++) {
            for (int what = 0; what < 4; what++) {
                Check.due("structure(" + k + ", " + what + ")", x.structure(k, what), want[k][what]);
            }
            Check.due("structure(" + k + ", 4)", x.structure(k, 4), BAD);
            Check.due("structure(" + k + ", -1)", x.structure(k, -1), BAD);
        }
        Check.due("structure(4, 0)", x.structure(4, 0), BAD);
        for (int far : FAR) {
            Check.due("structure(" + far + ", 0)", x.structure(far, 0), BAD);
            Check.due("structure(0, " + far + ")", x.structure(0, far), BAD);
        }
    }

    private static void fields() {
        CodeTables x = sample();
        Check.due("field(0, 0)", x.field(0, 0), 1);
        Check.due("field(0, 1)", x.field(0, 1), 0x070601);
        Check.due("field(0, 2)", x.field(0, 2), 0x0707070705L);
        Check.due("field(0, 3)", x.field(0, 3), 0);
        Check.due("field(1, 0)", x.field(1, 0), 0x0603);
        Check.due("field(1, 1)", x.field(1, 1), 0);
        Check.due("field(2, 0), a foreign one", x.field(2, 0), 0);
        Check.due("field(4, 0)", x.field(4, 0), 0);
        for (int far : FAR) {
            Check.due("field(" + far + ", 0)", x.field(far, 0), 0);
            Check.due("field(0, " + far + ")", x.field(0, far), 0);
        }
    }

    private static void functions() {
        CodeTables x = sample();
        int[][] want = {
            {5, 1, 2, 2, 12, BAD, BAD}, {0, 0, 0, 0, 1, BAD, BAD}, {7, 2, 1, 0, 0, 0x0102, 250}, {0, 0, 0, 0, 0, 0, 0}};
        for (int f = 0; f < want.length; f++) {
            for (int what = 0; what < 7; what++) {
                Check.due("function(" + f + ", " + what + ")", x.function(f, what), want[f][what]);
            }
            Check.due("function(" + f + ", 7)", x.function(f, 7), BAD);
            Check.due("function(" + f + ", -1)", x.function(f, -1), BAD);
        }
        Check.due("function(4, 0)", x.function(4, 0), BAD);
        for (int far : FAR) {
            Check.due("function(" + far + ", 0)", x.function(far, 0), BAD);
            Check.due("function(0, " + far + ")", x.function(0, far), BAD);
        }
    }

    private static void lists() {
        CodeTables x = sample();
        long[][][] want = {
            {{3}, {0x090702, 2}, {0x0804, 0x0601}},
            {{}, {}, {}},
            {{0x090602, 4}, {0x08070707070600L}, {}},
            {{}, {}, {}},
            {{}, {}, {}}};
        for (int f = 0; f < want.length; f++) {
            for (int list = 0; list < 3; list++) {
                for (int i = 0; i < 4; i++) {
                    long due = i < want[f][list].length ? want[f][list][i] : 0;
                    Check.due("listed(" + f + ", " + list + ", " + i + ")", x.listed(f, list, i), due);
                }
            }
            Check.due("listed(" + f + ", 3, 0)", x.listed(f, 3, 0), 0);
            Check.due("listed(" + f + ", -1, 0)", x.listed(f, -1, 0), 0);
        }
        for (int far : FAR) {
            Check.due("listed(" + far + ", 0, 0)", x.listed(far, 0, 0), 0);
            Check.due("listed(0, " + far + ", 0)", x.listed(0, far, 0), 0);
            Check.due("listed(0, 0, " + far + ")", x.listed(0, 0, far), 0);
        }
    }

    private static void fullLists() {
        CodeTables x = Bytes.typed(Bytes.module(Bytes.of(0, 0, 0, 0, 1, 0, 8), Bytes.repeated(8, 1),
            Bytes.of(8), Bytes.repeated(8, 2), Bytes.of(32), Bytes.repeated(32, 3), Bytes.of(0, 2, 1, 1)));
        Check.due("full lists: read()", x.read(), 0);
        int[] counts = {8, 8, 32, 0};
        for (int list = 0; list <= 3; list++) {
            for (int i = 0; i <= 32; i++) {
                long due = i < counts[list] ? list + 1 : 0;
                Check.due("full lists: listed(0, " + list + ", " + i + ")", x.listed(0, list, i), due);
            }
            Check.due("full lists: listed(0, " + list + ", -1)", x.listed(0, list, -1), 0);
        }
        Check.due("full lists: listed(0, -1, 0)", x.listed(0, -1, 0), 0);
    }

    private static void elements() {
        CodeTables x = sample();
        long[] want = {2, 0x070603, 0x0600, 0};
        for (int k = 0; k < want.length; k++) {
            Check.due("element(" + k + ")", x.element(k), want[k]);
        }
        for (int far : FAR) {
            Check.due("element(" + far + ")", x.element(far), 0);
        }
    }

    private static void operations() {
        CodeTables x = sample();
        int[] want = {5, 11, 15, 16, 21, 23, 52, 58, 4, 10, 7, 59, BAD};
        for (int i = 0; i < want.length; i++) {
            Check.due("operation(0, " + i + ")", x.operation(0, i), want[i]);
        }
        Check.due("operation(1, 0)", x.operation(1, 0), 1);
        Check.due("operation(1, 1)", x.operation(1, 1), BAD);
        Check.due("operation(2, 0), a foreign one", x.operation(2, 0), BAD);
        Check.due("operation(4, 0)", x.operation(4, 0), BAD);
        for (int far : FAR) {
            Check.due("operation(" + far + ", 0)", x.operation(far, 0), BAD);
            Check.due("operation(0, " + far + ")", x.operation(0, far), BAD);
        }
    }

    private static void operands() {
        CodeTables x = sample();
        long[][] want = {
            {200, 0}, {0, 0}, {2, 0}, {0, 2}, {1, 0}, {3, 0}, {2, 64}, {1, 0}, {11, 0},
            {0x8001020304050607L, 0}, {-2, 9}, {0, 0}, {0, 0}};
        for (int i = 0; i < want.length; i++) {
            Check.due("operand(0, " + i + ", 0)", x.operand(0, i, 0), want[i][0]);
            Check.due("operand(0, " + i + ", 1)", x.operand(0, i, 1), want[i][1]);
            Check.due("operand(0, " + i + ", 2)", x.operand(0, i, 2), 0);
            Check.due("operand(0, " + i + ", -1)", x.operand(0, i, -1), 0);
        }
        Check.due("operand(1, 0, 0)", x.operand(1, 0, 0), 0);
        Check.due("operand(2, 0, 0), a foreign one", x.operand(2, 0, 0), 0);
        for (int far : FAR) {
            Check.due("operand(" + far + ", 0, 0)", x.operand(far, 0, 0), 0);
            Check.due("operand(0, " + far + ", 0)", x.operand(0, far, 0), 0);
            Check.due("operand(0, 0, " + far + ")", x.operand(0, 0, far), 0);
        }
    }

    private static void noneBehindAFault() {
        CodeTables x = sample();
        Bytes.type(x, Bytes.with(Sample.bytes(), 21, 4));
        Check.due("read() of a module with a fault", x.read(), -7);
        Check.due("told(1) behind a fault", x.told(1), BAD);
        Check.due("structure(0, 0) behind a fault", x.structure(0, 0), BAD);
        Check.due("field(0, 0) behind a fault", x.field(0, 0), 0);
        Check.due("function(0, 0) behind a fault", x.function(0, 0), BAD);
        Check.due("listed(0, 0, 0) behind a fault", x.listed(0, 0, 0), 0);
        Check.due("element(0) behind a fault", x.element(0), 0);
        Check.due("operation(0, 0) behind a fault", x.operation(0, 0), BAD);
        Check.due("operand(0, 0, 0) behind a fault", x.operand(0, 0, 0), 0);
    }

    private static void nothingIsLeftOfAnEarlierModule() {
        CodeTables x = sample();
        Bytes.type(x, Bytes.module(Bytes.of(0, 1, 0, 5, 6, 4, 1, 0, 8, 2, 0, 0, 0, 0, 1, 0, 0, 0, 0, 0, 1, 0)));
        Check.due("read() of a second module", x.read(), 0);
        int[] want = {7, 0, 1, 1, 0, 1, 1};
        for (int what = 0; what < want.length; what++) {
            Check.due("second: told(" + what + ")", x.told(what), want[what]);
        }
        Check.due("second: structure(0, 0)", x.structure(0, 0), 4);
        Check.due("second: structure(0, 1)", x.structure(0, 1), 0);
        Check.due("second: structure(0, 2)", x.structure(0, 2), 5);
        Check.due("second: structure(0, 3)", x.structure(0, 3), 6);
        Check.due("second: structure(1, 0)", x.structure(1, 0), BAD);
        Check.due("second: field(0, 0)", x.field(0, 0), 0);
        Check.due("second: function(0, 5)", x.function(0, 5), BAD);
        Check.due("second: function(1, 5)", x.function(1, 5), 8);
        Check.due("second: function(1, 6)", x.function(1, 6), 2);
        Check.due("second: listed(0, 0, 0)", x.listed(0, 0, 0), 0);
        Check.due("second: element(0)", x.element(0), 0);
        Check.due("second: operation(0, 0)", x.operation(0, 0), 0);
        Check.due("second: operand(0, 0, 0)", x.operand(0, 0, 0), 0);
        Check.due("second: operation(0, 1)", x.operation(0, 1), BAD);
    }
}
