/** Promises 13 and 14, sentence by sentence: write, written. */
public final class WriteTest {
    private static final int BAD = CodeTables.BAD;
    private static final byte[] EMPTY = new Parts().bytes();

    public static void main(String[] args) {
        verySame();
        howMany();
        badWithoutModule();
        byteOfTheLatest();
        writtenLatest();
        badWithoutByte();
        Check.end();
    }

    private static void verySame() {
        Check.sentence("What it is", "tables are written as bytes again, the very same ones.");
        Reading.fine("the sample", Sample.bytes());
        Reading.fine("the empty module", EMPTY);
        Reading.fine("the lowest number", Bytes.of(82, 76, 77, 49, 0, 0, 0, 0, 0, 0, 0));
        Reading.fine("the highest number", Bytes.of(82, 76, 77, 49, 255, 255, 0, 0, 0, 0, 0));
        Reading.fine("a long code", new Parts().functions(1, Parts.function(1000, Bytes.repeated(500, 5, 255, 0))).bytes());
        Reading.fineBeyond("seven long codes", new Parts().functions(7, Parts.times(7,
            Parts.function(1024, Bytes.repeated(1024, 6, 1, 2, 3, 4, 5, 6, 7, 128)))).bytes());
    }

    private static void howMany() {
        Check.sentence("Promise 13", "THE MODULE is written: how many bytes.");
        CodeTables x = Reading.read("the sample", Sample.bytes());
        Check.due("write()", x.write(), Sample.LENGTH);
        Check.due("write() again", x.write(), Sample.LENGTH);
        Bytes.type(x, EMPTY);
        Check.due("write() while another one is typed", x.write(), Sample.LENGTH);
        x.read();
        Check.due("write() of the smallest one", x.write(), 11);
        Check.due("the module stays behind a write", x.told(0), 7);
        Check.due("place() stays behind a write", x.place(), 11);
        Check.due("the tape stays empty behind a write", x.type(82, 1), 1);
    }

    private static void badWithoutModule() {
        Check.sentence("Promise 13", "BAD when there is none.");
        CodeTables x = new CodeTables();
        Check.due("write() before the first read()", x.write(), BAD);
        Bytes.type(x, Sample.bytes());
        Check.due("write() of a tape that is not read", x.write(), BAD);
        Check.due("read() behind it", x.read(), 0);
        Check.due("write() behind it", x.write(), Sample.LENGTH);
        for (int why = 1; why <= Faulty.LAST; why++) {
            CodeTables y = Reading.read("the sample", Sample.bytes());
            y.write();
            Bytes.type(y, Faulty.sample(why));
            y.read();
            Check.due("write() behind fault " + why, y.write(), BAD);
            Check.due("write() again behind fault " + why, y.write(), BAD);
        }
    }

    private static void byteOfTheLatest() {
        Check.sentence("Promise 14", "Byte i of what was written latest");
        CodeTables x = Reading.read("the sample", Sample.bytes());
        x.write();
        for (int i = 0; i < Sample.LENGTH; i++) {
            Check.due("written(" + i + ")", x.written(i), Sample.bytes()[i] & 255);
        }
        CodeTables y = Reading.read("all bytes", new Parts().functions(1, Parts.function(256, everyByte())).bytes());
        y.write();
        for (int i = 0; i < 256; i++) {
            Check.due("all bytes: written(" + (18 + 2 * i) + ")", y.written(18 + 2 * i), i);
        }
    }

    private static byte[] everyByte() {
        byte[] code = new byte[0];
        for (int i = 0; i < 256; i++) {
            code = Bytes.join(code, Bytes.of(5, i));
        }
        return code;
    }

    private static void writtenLatest() {
        Check.sentence("Promise 14", "what was written latest");
        CodeTables x = Reading.read("the sample", Sample.bytes());
        x.write();
        Bytes.type(x, EMPTY);
        Check.due("written(4) stays while typing", x.written(4), 0x12);
        x.read();
        Check.due("written(4) stays behind a read", x.written(4), 0x12);
        Check.due("written(132) stays behind a read", x.written(132), 1);
        x.write();
        Check.due("written(5) of the second one", x.written(5), 7);
        Check.due("written(11) of the second one, which is shorter", x.written(11), BAD);
        x.read();
        Check.due("written(5) stays behind a fault", x.written(5), 7);
        Check.due("write() without a module", x.write(), BAD);
        Check.due("written(5) stays behind a refused write", x.written(5), 7);
        Check.due("written(10) stays behind a refused write", x.written(10), 0);
        Check.due("written(11) stays behind a refused write", x.written(11), BAD);
        Bytes.type(x, Sample.bytes());
        x.read();
        Check.due("write() of a longer one", x.write(), Sample.LENGTH);
        Check.due("written(132) of the longer one", x.written(132), 1);
    }

    private static void badWithoutByte() {
        Check.sentence("Promise 14", "BAD when there is none.");
        CodeTables x = new CodeTables();
        Check.due("written(0) before the first write()", x.written(0), BAD);
        Check.due("written(-1) before the first write()", x.written(-1), BAD);
        x.write();
        Check.due("written(0) behind a refused write()", x.written(0), BAD);
        Bytes.type(x, Sample.bytes());
        x.read();
        Check.due("written(0) behind a read alone", x.written(0), BAD);
        x.write();
        Check.due("written(-1)", x.written(-1), BAD);
        Check.due("written(0)", x.written(0), 82);
        Check.due("written(132)", x.written(Sample.LENGTH - 1), 1);
        Check.due("written(133)", x.written(Sample.LENGTH), BAD);
        Check.due("written(134)", x.written(Sample.LENGTH + 1), BAD);
        for (int far : new int[] {Integer.MIN_VALUE, -65536, -2, 4095, 4096, 65535, 65536, Integer.MAX_VALUE}) {
            Check.due("written(" + far + ")", x.written(far), BAD);
        }
    }
}
