/** An object's 512 calls: the last one is answered as the first one is. */
public final class CallsTest {
    private static final int CALLS = 512;
    private static final int BAD = CodeTables.BAD;
    private static final String WORDS = "An object is used for at most 512 calls after it has been made";

    public static void main(String[] args) {
        Check.sentence("What it is", WORDS);
        typesAlone();
        longestTape();
        longestModule();
        longestCode();
        readsAlone();
        refusedAlone();
        manyModules();
        goodAndFaulty();
        writesAlone();
        Check.end();
    }

    private static void typesAlone() {
        CodeTables x = new CodeTables();
        for (int i = 1; i <= CALLS; i++) {
            Check.due("type(-1, 8), call " + i, x.type(-1, 8), 8 * i);
        }
    }

    private static void longestTape() {
        CodeTables x = new CodeTables();
        x.type(0x524C4D3100070000L, 8);
        for (int i = 2; i <= CALLS - 2; i++) {
            x.type(0, 8);
        }
        Check.due("read(), call 511", x.read(), -6);
        Check.due("place(), call 512", x.place(), 11);
    }

    /** 509 calls type it; read(), write() and written() are the last three. */
    private static void longestModule() {
        byte[] row = ofLength(509 * 8);
        for (int i : new int[] {0, 4064, 4070, 4071, 4072, -1}) {
            CodeTables x = Bytes.typed(row);
            Check.due("the longest: read(), call 510", x.read(), 0);
            Check.due("the longest: write(), call 511", x.write(), row.length);
            Check.due("the longest: written(" + i + "), call 512", x.written(i), i >= 0 && i < row.length ? row[i] & 255 : BAD);
        }
        byte[] longer = ofLength(510 * 8);
        CodeTables x = Bytes.typed(longer);
        Check.due("longer still: read(), call 511", x.read(), 0);
        Check.due("longer still: write(), call 512", x.write(), longer.length);
        CodeTables y = Bytes.typed(ofLength(511 * 8));
        Check.due("the longest of all: read(), call 512", y.read(), 0);
    }

    /** A module of so many bytes, most of them operands of 7. */
    private static byte[] ofLength(int length) {
        int code = length - 17;
        int wide = code / 17;
        int rest = code - 17 * wide;
        byte[] wides = Bytes.repeated(wide, 7, 1, 2, 3, 4, 5, 6, 7, 8, 129, 130, 131, 132, 133, 134, 135, 136);
        byte[] row = new Parts().functions(1, Parts.function(wide + rest, wides, Bytes.repeated(rest, 59))).bytes();
        Check.due("the row's length", row.length, length);
        return row;
    }

    /** As many instructions as 509 calls can type: three functions of 1024 and one more. */
    private static void longestCode() {
        int left = 509 * 8 - 11 - 3 * 1030 - 6;
        byte[] row = new Parts().functions(4, Parts.times(3, Parts.function(1024, Bytes.repeated(1024, 59))),
            Parts.function(left, Bytes.repeated(left, 38))).bytes();
        CodeTables x = Bytes.typed(row);
        Check.due("the longest code: read(), call 510", x.read(), 0);
        Check.due("the longest code: told(6), call 511", x.told(6), 3 * 1024 + left);
        Check.due("the longest code: operation(3, last), call 512", x.operation(3, left - 1), 38);
    }

    private static void readsAlone() {
        CodeTables x = new CodeTables();
        for (int i = 1; i <= CALLS; i++) {
            Check.due("read(), call " + i, x.read(), -2);
        }
    }

    private static void refusedAlone() {
        CodeTables x = new CodeTables();
        for (int i = 1; i < CALLS; i++) {
            Check.due("type(0, 9), call " + i, x.type(0, 9), BAD);
        }
        Check.due("type(0, 8), call 512", x.type(0, 8), 8);
    }

    /** Two calls that type, read(), and one of the others: 128 modules. */
    private static void manyModules() {
        CodeTables x = new CodeTables();
        for (int i = 0; i < CALLS / 4; i++) {
            x.type(0x524C4D310000L + i, 6);
            x.type(0, 5);
            Check.due("module " + i + ": read()", x.read(), 0);
            switch (i % 3) {
                case 0:
                    Check.due("module " + i + ": told(0)", x.told(0), i);
                    break;
                case 1:
                    Check.due("module " + i + ": write()", x.write(), 11);
                    break;
                default:
                    Check.due("module " + i + ": written(5)", x.written(5), i - 1);
            }
        }
    }

    /** The sample and its faulty ones by turns, as long as the calls last. */
    private static void goodAndFaulty() {
        int each = Reading.calls(Sample.bytes()) + 3;
        CodeTables x = new CodeTables();
        for (int turn = 0; turn < CALLS / each; turn++) {
            int why = turn % 2 == 0 ? 0 : 1 + turn / 2 % Faulty.LAST;
            Bytes.type(x, why == 0 ? Sample.bytes() : Faulty.sample(why));
            Check.due("turn " + turn + ": read()", x.read(), -why);
            Check.due("turn " + turn + ": place()", x.place(), why == 0 ? Sample.LENGTH : Faulty.place(why));
            Check.due("turn " + turn + ": write()", x.write(), why == 0 ? Sample.LENGTH : BAD);
        }
    }

    private static void writesAlone() {
        CodeTables x = Reading.read("the sample", Sample.bytes());
        for (int i = Reading.calls(Sample.bytes()) + 2; i < CALLS; i++) {
            Check.due("write(), call " + i, x.write(), Sample.LENGTH);
        }
        Check.due("written(132), call 512", x.written(132), 1);
    }
}
