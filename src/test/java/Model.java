import java.util.ArrayList;
import java.util.List;

/** What the document asks of every call in every state, said by the reference: a tape, a module, a place, written bytes. */
final class Model {
    private static final int BAD = CodeTables.BAD;
    private static final int FULL = CodeTables.FULL;
    private static final int MOST_BYTES = 65536;

    private byte[] tape = new byte[0];
    private byte[] source = new byte[0];
    private byte[] written = new byte[0];
    private Reference module = null;
    private int place = 0;

    int type(long bytes, int n) {
        if (n < 1 || n > 8) {
            return BAD;
        }
        if (tape.length + n > MOST_BYTES) {
            return FULL;
        }
        byte[] eight = Bytes.longs(bytes);
        for (int i = 8 - n; i < 8; i++) {
            tape = Bytes.join(tape, Bytes.of(eight[i]));
        }
        return tape.length;
    }

    int read() {
        Reference reference = new Reference(tape);
        place = reference.place;
        module = reference.why == 0 ? reference : null;
        source = tape;
        tape = new byte[0];
        return -reference.why;
    }

    int place() {
        return place;
    }

    int told(int what) {
        if (module == null) {
            return BAD;
        }
        return fact(what, module.number, module.own.size(), module.foreign.size(), module.foreignFunctions.size(),
            module.elements.size(), module.functions.size(), module.instructions);
    }

    int structure(int k, int what) {
        Reference.Structure s = item(structures(), k);
        return s == null ? BAD : fact(what, s.abilities, s.fields.size(), s.module, s.number);
    }

    long field(int k, int i) {
        Reference.Structure s = item(structures(), k);
        return s == null ? 0 : typeOf(s.fields, i);
    }

    int function(int f, int what) {
        Reference.Function g = item(functions(), f);
        if (g == null) {
            return BAD;
        }
        int further = g.lists.size() > 2 ? g.lists.get(2).size() : 0;
        return fact(what, g.flags, g.lists.get(0).size(), g.lists.get(1).size(), further, g.code.size(), g.module, g.number);
    }

    long listed(int f, int list, int i) {
        Reference.Function g = item(functions(), f);
        List<Long> types = g == null ? null : item(g.lists, list);
        return types == null ? 0 : typeOf(types, i);
    }

    long element(int k) {
        return module == null ? 0 : typeOf(module.elements, k);
    }

    int operation(int f, int i) {
        long[] told = instruction(f, i);
        return told == null ? BAD : (int) told[0];
    }

    long operand(int f, int i, int which) {
        long[] told = instruction(f, i);
        return told == null || which != 0 && which != 1 ? 0 : told[1 + which];
    }

    int write() {
        if (module == null) {
            return BAD;
        }
        written = source;
        return written.length;
    }

    int written(int i) {
        return i < 0 || i >= written.length ? BAD : written[i] & 255;
    }

    int tapeLength() {
        return tape.length;
    }

    private List<Reference.Structure> structures() {
        List<Reference.Structure> all = new ArrayList<>();
        if (module != null) {
            all.addAll(module.own);
            all.addAll(module.foreign);
        }
        return all;
    }

    private List<Reference.Function> functions() {
        List<Reference.Function> all = new ArrayList<>();
        if (module != null) {
            all.addAll(module.functions);
            all.addAll(module.foreignFunctions);
        }
        return all;
    }

    private long[] instruction(int f, int i) {
        Reference.Function g = item(functions(), f);
        return g == null ? null : item(g.code, i);
    }

    private static <T> T item(List<T> list, int i) {
        return i < 0 || i >= list.size() ? null : list.get(i);
    }

    private static long typeOf(List<Long> list, int i) {
        return i < 0 || i >= list.size() ? 0 : list.get(i);
    }

    private static int fact(int what, int... facts) {
        return what < 0 || what >= facts.length ? BAD : facts[what];
    }
}
