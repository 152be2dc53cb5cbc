/** Promises 1 to 4, sentence by sentence: a new object, type, read, place. */
public final class TapeTest {
    private static final int BAD = CodeTables.BAD;
    private static final int FULL = CodeTables.FULL;
    private static final byte[] EMPTY = new Parts().bytes();

    public static void main(String[] args) {
        newTape();
        newWithoutModule();
        lowestBytes();
        itsLength();
        badCounts();
        mostBytes();
        full();
        emptyThen();
        theModule();
        whyAndNone();
        faultsPlace();
        latestRead();
        lengthWithoutFault();
        zeroBefore();
        Check.end();
    }

    private static void newTape() {
        Check.sentence("Promise 1", "An empty tape");
        CodeTables x = new CodeTables();
        Check.due("new: read()", x.read(), -2);
        Check.due("new: place() behind it", x.place(), 0);
        CodeTables y = new CodeTables();
        Check.due("new: type(82, 1)", y.type(82, 1), 1);
        CodeTables z = new CodeTables();
        Check.due("another new one: type(82, 1)", z.type(82, 1), 1);
    }

    private static void newWithoutModule() {
        Check.sentence("Promise 1", "no module.");
        CodeTables x = new CodeTables();
        NoModule.of("new", x);
        Check.due("new: written(0)", x.written(0), BAD);
        CodeTables other = Reading.read("another one", Sample.bytes());
        NoModule.of("new, beside one with a module", new CodeTables());
        Check.due("the other's module", other.told(0), 0x1234);
    }

    /** The sample in pieces of n bytes, with other bytes above them that are not to be typed. */
    private static void lowestBytes() {
        Check.sentence("Promise 2", "The lowest n bytes of bytes, the highest of them first, come behind the tape");
        byte[] row = Sample.bytes();
        for (int n = 1; n <= 8; n++) {
            CodeTables x = new CodeTables();
            for (int from = 0; from < row.length; from += n) {
                int size = Math.min(n, row.length - from);
                long bytes = from % 2 == 0 ? -1 : 0x5A5A5A5A5A5A5A5AL;
                for (int i = 0; i < size; i++) {
                    bytes = bytes << 8 | row[from + i] & 255;
                }
                x.type(bytes, size);
            }
            Check.due("in pieces of " + n + ": read()", x.read(), 0);
            Check.due("in pieces of " + n + ": write()", x.write(), row.length);
            for (int i = 0; i < row.length; i++) {
                Check.due("in pieces of " + n + ": written(" + i + ")", x.written(i), row[i] & 255);
            }
        }
    }

    private static void itsLength() {
        Check.sentence("Promise 2", "its length.");
        CodeTables x = new CodeTables();
        int length = 0;
        for (int times = 0; times < 2; times++) {
            for (int n = 1; n <= 8; n++) {
                length += n;
                Check.due("type(-1, " + n + ")", x.type(-1, n), length);
            }
        }
        x.read();
        Check.due("type(0, 8) on the emptied tape", x.type(0, 8), 8);
    }

    private static void badCounts() {
        Check.sentence("Promise 2", "BAD when n is not 1 .. 8");
        int[] wrong = {0, -1, 9, 10, -8, 16, 64, 256, 257, 65536, 65537, Integer.MIN_VALUE, Integer.MIN_VALUE + 1, Integer.MAX_VALUE};
        CodeTables empty = new CodeTables();
        for (int n : wrong) {
            Check.due("type(82, " + n + ") on an empty tape", empty.type(82, n), BAD);
        }
        Check.due("type(82, 1) behind them", empty.type(82, 1), 1);
        CodeTables x = new CodeTables();
        x.type(0x524C4D310007L, 6);
        for (int n : wrong) {
            Check.due("type(-1, " + n + ")", x.type(-1, n), BAD);
            Check.due("place() stays behind type(-1, " + n + ")", x.place(), 0);
        }
        Check.due("type(0, 5) behind them", x.type(0, 5), 11);
        Check.due("read() of what was typed with right ones", x.read(), 0);
        for (int n : wrong) {
            Check.due("type(-1, " + n + ") behind a read", x.type(-1, n), BAD);
        }
        Check.due("the module stays behind them", x.told(0), 7);
        Check.due("place() stays behind them", x.place(), 11);
        Check.due("the smallest n", x.type(0, 1), 1);
        Check.due("the largest n", x.type(0, 8), 9);
    }

    /** More calls than 512: the bound is kept there all the same. */
    private static void mostBytes() {
        Check.sentence("Terms", "THE TAPE has at most 65536 bytes");
        CodeTables x = new CodeTables();
        for (int i = 1; i < 8192; i++) {
            Check.due("type(0, 8), time " + i, x.type(0, 8), 8 * i);
        }
        Check.due("type(0, 8) up to the last byte", x.type(0, 8), 65536);
        Check.due("type(0, 1) behind it", x.type(0, 1), FULL);
        Check.due("read() of all", x.read(), -1);
    }

    private static void full() {
        Check.sentence("Promise 2", "FULL.");
        CodeTables x = new CodeTables();
        x.type(0x524C4D3100070000L, 8);
        for (int i = 2; i < 8192; i++) {
            x.type(0, 8);
        }
        Check.due("type(0, 7) up to 65535", x.type(0, 7), 65535);
        for (int n = 2; n <= 8; n++) {
            Check.due("type(1, " + n + ") with room for one", x.type(1, n), FULL);
        }
        Check.due("type(1, 0), which is BAD and not FULL", x.type(1, 0), BAD);
        Check.due("type(1, 9), which is BAD and not FULL", x.type(1, 9), BAD);
        Check.due("type(0, 1) fits", x.type(0, 1), 65536);
        for (int n = 1; n <= 8; n++) {
            Check.due("type(1, " + n + ") on a full tape", x.type(1, n), FULL);
        }
        Check.due("type(1, 9) on a full tape", x.type(1, 9), BAD);
        Check.due("read() of a full tape", x.read(), -6);
        Check.due("its place()", x.place(), 11);
        Check.due("type(0, 1) on the emptied tape", x.type(0, 1), 1);
    }

    private static void emptyThen() {
        Check.sentence("Promise 3", "The tape is read, and is empty then");
        CodeTables x = Reading.read("a good one", EMPTY);
        Check.due("type(82, 1) behind a good one", x.type(82, 1), 1);
        Check.due("read() of that byte alone", x.read(), -2);
        Check.due("its place()", x.place(), 1);
        for (int why = 1; why <= Faulty.LAST; why++) {
            CodeTables y = Bytes.typed(Faulty.sample(why));
            Check.due("fault " + why + ": read()", y.read(), -why);
            Check.due("fault " + why + ": type(82, 1) behind it", y.type(82, 1), 1);
            Check.due("fault " + why + ": read() of that byte alone", y.read(), -2);
            Check.due("fault " + why + ": its place()", y.place(), 1);
            Check.due("fault " + why + ": read() of an empty tape", y.read(), -2);
            Check.due("fault " + why + ": its place()", y.place(), 0);
        }
    }

    private static void theModule() {
        Check.sentence("Promise 3", "0, and its module is THE MODULE");
        CodeTables x = Reading.read("the empty one", EMPTY);
        Check.due("its number", x.told(0), 7);
        Bytes.type(x, Sample.bytes());
        Check.due("the module stays while another one is typed", x.told(0), 7);
        Check.due("read() of the sample", x.read(), 0);
        Check.due("the sample's number", x.told(0), 0x1234);
        for (int why = 1; why <= Faulty.LAST; why++) {
            CodeTables y = Bytes.typed(Faulty.sample(why));
            y.read();
            Bytes.type(y, Sample.bytes());
            Check.due("read() of the sample behind fault " + why, y.read(), 0);
            Check.due("its number behind fault " + why, y.told(0), 0x1234);
            Check.due("write() of it behind fault " + why, y.write(), Sample.LENGTH);
        }
    }

    private static void whyAndNone() {
        Check.sentence("Promise 3", "or -why, and there is none.");
        for (int why = 1; why <= Faulty.LAST; why++) {
            CodeTables x = Reading.read("the sample", Sample.bytes());
            Bytes.type(x, Faulty.sample(why));
            Check.due("read() with fault " + why, x.read(), -why);
            NoModule.of("behind fault " + why, x);
        }
        CodeTables x = Reading.read("the sample", Sample.bytes());
        Check.due("read() of the emptied tape", x.read(), -2);
        NoModule.of("behind an empty tape", x);
    }

    private static void faultsPlace() {
        Check.sentence("Promise 4", "Where the latest read() found its fault");
        for (int why = 1; why <= Faulty.LAST; why++) {
            CodeTables x = Bytes.typed(Faulty.sample(why));
            x.read();
            Check.due("fault " + why + ": place()", x.place(), Faulty.place(why));
        }
    }

    private static void latestRead() {
        Check.sentence("Promise 4", "the latest read()");
        CodeTables x = Bytes.typed(Faulty.sample(8));
        x.read();
        Check.due("place() of a fault", x.place(), 88);
        x.type(-1, 9);
        Bytes.type(x, EMPTY);
        x.told(0);
        x.write();
        Check.due("place() stays until the next read", x.place(), 88);
        x.read();
        Check.due("place() of a good one behind it", x.place(), 11);
        x.write();
        x.type(-1, 8);
        Check.due("place() stays while typing", x.place(), 11);
        x.read();
        Check.due("place() of a fault at 0", x.place(), 0);
    }

    private static void lengthWithoutFault() {
        Check.sentence("Promise 4", "the tape's length when there was none");
        CodeTables x = Reading.read("the empty one", EMPTY);
        Check.due("place() of the empty module", x.place(), 11);
        Bytes.type(x, Sample.bytes());
        x.read();
        Check.due("place() of the sample", x.place(), Sample.LENGTH);
        Check.due("place() asked again", x.place(), Sample.LENGTH);
    }

    private static void zeroBefore() {
        Check.sentence("Promise 4", "0 before.");
        CodeTables x = new CodeTables();
        Check.due("new: place()", x.place(), 0);
        Bytes.type(x, Sample.bytes());
        Check.due("place() behind typing alone", x.place(), 0);
        x.type(0, 0);
        x.write();
        x.written(5);
        Check.due("place() behind refused calls", x.place(), 0);
    }
}
