import java.util.Arrays;
import java.util.Random;

/** A module made by chance, the same one for the same seed; and the same with bytes changed, lost or added. */
final class Made {
    private final Random random;
    private final byte[] row = new byte[5000];
    private int length = 0;

    Made(long seed) {
        random = new Random(seed);
    }

    private int below(int bound) {
        return random.nextInt(bound);
    }

    private void put(int... values) {
        for (int value : values) {
            row[length++] = (byte) value;
        }
    }

    byte[] module() {
        put(82, 76, 77, 49, below(256), below(256));
        int own = below(6);
        int foreign = below(4);
        int[] fieldCounts = new int[own];
        put(own);
        for (int k = 0; k < own; k++) {
            fieldCounts[k] = 1 + below(4);
            put(below(16), fieldCounts[k]);
            for (int i = 0; i < fieldCounts[k]; i++) {
                // Only later structures and foreign ones, so that there is no circle.
                putType(k + 1, own + foreign, false);
            }
        }
        put(foreign);
        for (int i = 0; i < foreign; i++) {
            put(below(256), below(256), below(256), below(16));
        }
        int foreignFunctions = below(4);
        put(foreignFunctions);
        for (int i = 0; i < foreignFunctions; i++) {
            put(below(256), below(256), below(256), below(8));
            putList(9, own + foreign);
            putList(9, own + foreign);
        }
        int elements = below(4);
        put(elements);
        for (int i = 0; i < elements; i++) {
            putType(0, own + foreign, false);
        }
        int functions = below(5);
        put(functions);
        for (int f = 0; f < functions; f++) {
            put(below(8));
            int taken = putList(9, own + foreign);
            putList(9, own + foreign);
            int locals = taken + putList(33, own + foreign);
            int count = 1 + below(30);
            put(count >> 8, count);
            for (int i = 0; i < count; i++) {
                putInstruction(fieldCounts, locals, functions + foreignFunctions, elements, count);
            }
        }
        return Arrays.copyOf(row, length);
    }

    private int putList(int bound, int structures) {
        int count = below(3) == 0 ? below(bound) : below(3);
        put(count);
        for (int i = 0; i < count; i++) {
            putType(0, structures, true);
        }
        return count;
    }

    private void putType(int firstStructure, int structures, boolean mayRefer) {
        if (mayRefer && below(3) == 0) {
            put(8 + below(2));
        }
        for (int vectors = below(2) * below(5); vectors > 0; vectors--) {
            put(7);
        }
        if (firstStructure < structures && below(2) == 0) {
            put(6, firstStructure + below(structures - firstStructure));
        } else {
            put(1 + below(5));
        }
    }

    private void putInstruction(int[] fieldCounts, int locals, int functions, int elements, int count) {
        int operation = below(60);
        int own = fieldCounts.length;
        boolean branch = operation >= 2 && operation <= 4;
        boolean local = operation >= 11 && operation <= 15;
        boolean field = operation == 16 || operation == 17;
        boolean structure = field || operation == 21 || operation == 22 || operation >= 47 && operation <= 51;
        boolean element = operation >= 52 && operation <= 58;
        if (local && locals == 0 || structure && own == 0 || element && elements == 0) {
            put(0);
            return;
        }
        put(operation);
        if (branch) {
            int target = below(count);
            put(target >> 8, target);
        } else if (local) {
            put(below(locals));
        } else if (structure) {
            int k = below(own);
            put(k);
            if (field) {
                put(below(fieldCounts[k]));
            }
        } else if (element) {
            put(below(elements));
            if (operation == 52) {
                put(below(65));
            }
        } else if (operation == 23) {
            put(below(functions));
        } else {
            int size = operation == 5 ? 1 : operation == 6 || operation == 10 ? 8 : operation == 7 ? 16 : 0;
            for (int i = 0; i < size; i++) {
                put(below(256));
            }
        }
    }

    /** One to three bytes changed, mostly to small numbers; at times the row is cut or longer. */
    byte[] changed(byte[] module) {
        byte[] changed = module.clone();
        for (int times = 1 + below(3); times > 0; times--) {
            int place = below(5) == 0 ? below(Math.min(12, module.length)) : below(module.length);
            changed[place] = (byte) (below(4) == 0 ? below(256) : below(12));
        }
        int chance = below(20);
        if (chance == 0) {
            return Bytes.cut(changed, below(changed.length));
        }
        return chance == 1 ? Bytes.join(changed, Bytes.of(below(256))) : changed;
    }
}
