import java.util.Random;

/** Runs of 512 calls in an order made by chance: each answers what the document asks, and changes nothing else. */
public final class RunsTest {
    private static final int RUNS = 1500;

    private final Random random;
    private final String name;
    private final CodeTables x = new CodeTables();
    private final Model due = new Model();
    private int calls = 0;

    private RunsTest(int seed) {
        random = new Random(seed);
        name = "run " + seed;
    }

    public static void main(String[] args) {
        Check.sentence("Not promised", "Nothing is promised beyond the answers and state changes described above");
        for (int seed = 0; seed < RUNS; seed++) {
            new RunsTest(seed).run();
        }
        Check.end();
    }

    private void run() {
        while (calls < Reading.CALLS) {
            int chance = random.nextInt(40);
            if (chance == 0) {
                typeRow();
            } else if (chance == 1) {
                typeAny();
            } else if (chance == 2) {
                look("read()", x.read(), due.read());
            } else {
                ask();
            }
        }
    }

    private void look(String call, long got, long want) {
        calls++;
        Check.due(name + ", call " + calls + ": " + call, got, want);
    }

    private void type(long bytes, int n) {
        look("type(" + bytes + ", " + n + ")", x.type(bytes, n), due.type(bytes, n));
    }

    private void typeAny() {
        type(random.nextLong(), random.nextInt(4) == 0 ? far() : random.nextInt(10));
    }

    /** A module or a faulty one, in pieces, with questions between them; and it is read, if calls are left. */
    private void typeRow() {
        if (due.tapeLength() > 0 && random.nextInt(8) != 0) {
            look("read()", x.read(), due.read());
        }
        Made made = new Made(random.nextInt());
        byte[] row = made.module();
        if (random.nextInt(3) == 0) {
            row = made.changed(row);
        }
        int at = 0;
        while (at < row.length && calls < Reading.CALLS) {
            int n = Math.min(row.length - at, random.nextInt(4) == 0 ? 1 + random.nextInt(8) : 8);
            long bytes = random.nextLong();
            for (int i = 0; i < n; i++) {
                bytes = bytes << 8 | row[at + i] & 255;
            }
            type(bytes, n);
            at += n;
            if (random.nextInt(6) == 0 && calls < Reading.CALLS) {
                ask();
            }
        }
        if (calls < Reading.CALLS) {
            look("read()", x.read(), due.read());
        }
    }

    private void ask() {
        int k = small();
        int what = random.nextInt(12) == 0 ? far() : random.nextInt(9) - 1;
        switch (random.nextInt(11)) {
            case 0:
                look("place()", x.place(), due.place());
                break;
            case 1:
                look("told(" + what + ")", x.told(what), due.told(what));
                break;
            case 2:
                look("structure(" + k + ", " + what + ")", x.structure(k, what), due.structure(k, what));
                break;
            case 3:
                look("function(" + k + ", " + what + ")", x.function(k, what), due.function(k, what));
                break;
            case 4:
                look("element(" + k + ")", x.element(k), due.element(k));
                break;
            case 5:
                look("write()", x.write(), due.write());
                break;
            default:
                askDeeper(k, random.nextInt(8) == 0 ? far() : random.nextInt(5) - 1);
        }
    }

    private void askDeeper(int k, int which) {
        int i = random.nextInt(2) == 0 ? small() : random.nextInt(40);
        switch (random.nextInt(5)) {
            case 0:
                look("field(" + k + ", " + i + ")", x.field(k, i), due.field(k, i));
                break;
            case 1:
                look("listed(" + k + ", " + which + ", " + i + ")", x.listed(k, which, i), due.listed(k, which, i));
                break;
            case 2:
                look("operation(" + k + ", " + i + ")", x.operation(k, i), due.operation(k, i));
                break;
            case 3:
                look("operand(" + k + ", " + i + ", " + which + ")", x.operand(k, i, which), due.operand(k, i, which));
                break;
            default:
                int place = random.nextInt(4) == 0 ? i : random.nextInt(500);
                look("written(" + place + ")", x.written(place), due.written(place));
        }
    }

    private int small() {
        return random.nextInt(16) == 0 ? far() : random.nextInt(9) - 1;
    }

    private int far() {
        return random.nextInt(3) == 0 ? random.nextInt() : Far.AWAY[random.nextInt(Far.AWAY.length)];
    }
}
