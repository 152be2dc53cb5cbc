import java.util.Arrays;

/** Promises 13 and 14: write, written. */
public final class WriteTest {
    private static final int BAD = CodeTables.BAD;

    public static void main(String[] args) {
        theVerySameBytes("the sample", Sample.bytes());
        theVerySameBytes("the empty module", Bytes.module(Bytes.of(0, 0, 0, 0, 0)));
        theVerySameBytes("65535 as its number", Bytes.of(82, 76, 77, 49, 255, 255, 0, 0, 0, 0, 0));
        theVerySameBytes("a long code", Bytes.join(Bytes.code(1000), Bytes.repeated(500, 5, 255, 0)));
        theLatest();
        beyondTheCalls();
        Check.end();
    }

    /** As many objects as it takes to ask for every byte within 512 calls each. */
    private static void theVerySameBytes(String name, byte[] row) {
        for (int from = 0; from < row.length; from += 200) {
            CodeTables x = Bytes.typed(row);
            Check.due(name + ": written(0) before a write", x.written(0), BAD);
            Check.due(name + ": read()", x.read(), 0);
            Check.due(name + ": written(0) behind a read", x.written(0), BAD);
            Check.due(name + ": write()", x.write(), row.length);
            for (int i = from; i < Math.min(from + 200, row.length); i++) {
                Check.due(name + ": written(" + i + ")", x.written(i), row[i] & 255);
            }
            for (int i : new int[] {-1, row.length, 65536, Integer.MIN_VALUE, Integer.MAX_VALUE}) {
                Check.due(name + ": written(" + i + ")", x.written(i), BAD);
            }
        }
    }

    private static void theLatest() {
        CodeTables x = Bytes.typed(Sample.bytes());
        x.read();
        x.write();
        Check.due("write() does it again", x.write(), Sample.LENGTH);
        Bytes.type(x, Bytes.of(82, 76, 77, 49, 0, 9, 0, 0, 0, 0, 0));
        Check.due("written stays while typing", x.written(4), 0x12);
        Check.due("read() of another module", x.read(), 0);
        Check.due("written stays behind a read", x.written(4), 0x12);
        Check.due("write() of the other", x.write(), 11);
        Check.due("its number", x.written(5), 9);
        Check.due("its end", x.written(10), 0);
        Check.due("nothing behind it", x.written(11), BAD);
        Check.due("read() with a fault", x.read(), -2);
        Check.due("written stays behind a fault", x.written(5), 9);
        Check.due("write() without a module", x.write(), BAD);
        Check.due("written stays behind it", x.written(5), 9);
    }

    /** The largest row of bytes comes back too, though the document speaks of 512 calls alone. */
    private static void beyondTheCalls() {
        byte[] code = Bytes.join(Bytes.of(0, 0, 0, 0, 1024 >> 8, 0), Bytes.repeated(1024, 6, 1, 2, 3, 4, 5, 6, 7, 128));
        byte[] row = Bytes.module(Bytes.of(0, 0, 0, 0, 7), code, code, code, code, code, code, code);
        CodeTables x = Bytes.typed(row);
        Check.due("large: read()", x.read(), 0);
        Check.due("large: place()", x.place(), row.length);
        Check.due("large: told(6)", x.told(6), 7 * 1024);
        Check.due("large: operand(6, 1023, 0)", x.operand(6, 1023, 0), 0x0102030405060780L);
        Check.due("large: write()", x.write(), row.length);
        byte[] back = new byte[row.length];
        for (int i = 0; i < row.length; i++) {
            back[i] = (byte) x.written(i);
        }
        Check.holds("large: the very same bytes", Arrays.equals(row, back));
        Check.due("large: written behind the end", x.written(row.length), BAD);
    }
}
