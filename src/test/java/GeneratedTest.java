import java.util.Arrays;

/** Modules made by chance, whole and with bytes changed, lost or added: the class answers as the reference does. */
public final class GeneratedTest {
    private static final int WHOLE = 400;
    private static final int CHANGED = 40000;

    public static void main(String[] args) {
        Check.sentence("What it is", "each row of bytes is taken apart into tables");
        for (int seed = 0; seed < WHOLE; seed++) {
            byte[] module = new Made(seed).module();
            Reference reference = new Reference(module);
            Check.due("seed " + seed + ": the reference", reference.why, 0);
            Comparison.of("seed " + seed, module, reference);
        }
        changedOnes();
        Check.end();
    }

    /** One object reads many of them, good ones and faulty ones, as far as its calls go. */
    private static void changedOnes() {
        Check.sentence("What it is", "or refused at its first fault");
        int[] seen = new int[15];
        CodeTables x = new CodeTables();
        int calls = 0;
        for (int seed = 0; seed < CHANGED; seed++) {
            Made made = new Made(seed);
            byte[] module = made.changed(made.module());
            int needed = (module.length + 7) / 8 + 4;
            if (calls + needed > Reading.CALLS) {
                x = new CodeTables();
                calls = 0;
            }
            calls += needed;
            Reference reference = new Reference(module);
            seen[reference.why]++;
            faults("changed seed " + seed, x, module, reference);
        }
        for (int why = 0; why < seen.length; why++) {
            Check.holds("fault " + why + " was among the changed ones: " + Arrays.toString(seen), seen[why] > 0);
        }
    }

    private static void faults(String name, CodeTables x, byte[] module, Reference reference) {
        Bytes.type(x, module);
        Check.due(name + ": read()", x.read(), -reference.why);
        Check.due(name + ": place()", x.place(), reference.place);
        Check.due(name + ": told(0)", x.told(0), reference.why == 0 ? reference.number : CodeTables.BAD);
        Check.due(name + ": write()", x.write(), reference.why == 0 ? module.length : CodeTables.BAD);
    }
}
