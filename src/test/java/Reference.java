import java.util.ArrayList;
import java.util.List;
import java.util.TreeSet;

/** A second reading of the document, built otherwise: lists, a thrown fault, and names put off as a row of tasks. */
final class Reference {
    static final class Fault extends RuntimeException {
        private static final long serialVersionUID = 1;
        final int why;
        final int place;

        Fault(int why, int place) {
            this.why = why;
            this.place = place;
        }
    }

    static final class Structure {
        int place;
        int abilities;
        int module = CodeTables.BAD;
        int number = CodeTables.BAD;
        List<Long> fields = new ArrayList<>();
    }

    static final class Function {
        int flags;
        int module = CodeTables.BAD;
        int number = CodeTables.BAD;
        List<List<Long>> lists = new ArrayList<>();
        List<long[]> code = new ArrayList<>();
    }

    final List<Structure> own = new ArrayList<>();
    final List<Structure> foreign = new ArrayList<>();
    final List<Function> functions = new ArrayList<>();
    final List<Function> foreignFunctions = new ArrayList<>();
    final List<Long> elements = new ArrayList<>();
    int number;
    int instructions = 0;
    int why = 0;
    int place;

    private final byte[] row;
    private final List<Runnable> names = new ArrayList<>();
    private int at = 0;

    Reference(byte[] row) {
        this.row = row;
        place = row.length;
        try {
            readModule();
            for (Runnable name : names) {
                name.run();
            }
            for (int k = 0; k < own.size(); k++) {
                TreeSet<Integer> inside = new TreeSet<>();
                collect(k, inside);
                refuse(inside.contains(k), 14, own.get(k).place);
            }
        } catch (Fault fault) {
            why = fault.why;
            place = fault.place;
        }
    }

    private static void refuse(boolean truth, int why, int place) {
        if (truth) {
            throw new Fault(why, place);
        }
    }

    private void collect(int k, TreeSet<Integer> inside) {
        for (long type : own.get(k).fields) {
            String hex = Long.toHexString(type);
            int inner = (int) (type % 256);
            boolean structure = hex.length() > 2 && hex.charAt(hex.length() - 3) == '6';
            if (structure && inner < own.size() && inside.add(inner)) {
                collect(inner, inside);
            }
        }
    }

    private int one() {
        refuse(at >= row.length, 2, row.length);
        return row[at++] & 255;
    }

    private long many(int size) {
        refuse(row.length - at < size, 2, row.length);
        long value = 0;
        for (int i = 0; i < size; i++) {
            value = value * 256 + one();
        }
        return value;
    }

    private int bounded(int size, int least, int most) {
        int start = at;
        int value = (int) many(size);
        refuse(value < least || value > most, 3, start);
        return value;
    }

    private void readModule() {
        for (char c : "RLM1".toCharArray()) {
            int start = at;
            refuse(one() != c, 1, start);
        }
        number = (int) many(2);
        for (int left = bounded(1, 0, 32); left > 0; left--) {
            Structure structure = new Structure();
            own.add(structure);
            structure.place = at;
            structure.abilities = bounded(1, 0, 15);
            types(structure.fields, bounded(1, 1, 16), false);
        }
        for (int left = bounded(1, 0, 32); left > 0; left--) {
            Structure structure = new Structure();
            foreign.add(structure);
            structure.module = (int) many(2);
            structure.number = one();
            structure.abilities = bounded(1, 0, 15);
        }
        for (int left = bounded(1, 0, 32); left > 0; left--) {
            Function function = new Function();
            foreignFunctions.add(function);
            function.module = (int) many(2);
            function.number = one();
            head(function, 8, 8);
        }
        types(elements, bounded(1, 0, 32), false);
        for (int left = bounded(1, 0, 64); left > 0; left--) {
            Function function = new Function();
            functions.add(function);
            head(function, 8, 8, 32);
            int start = at;
            int count = bounded(2, 1, 1024);
            instructions += count;
            refuse(instructions > 8192, 3, start);
            for (int i = 0; i < count; i++) {
                function.code.add(instruction(function, count));
            }
        }
        refuse(at < row.length, 6, at);
    }

    private void head(Function function, int... most) {
        function.flags = bounded(1, 0, 7);
        for (int bound : most) {
            List<Long> list = new ArrayList<>();
            function.lists.add(list);
            types(list, bounded(1, 0, bound), true);
        }
    }

    private void types(List<Long> list, int count, boolean references) {
        for (int i = 0; i < count; i++) {
            list.add(type(0, references, 4));
        }
    }

    private long type(long before, boolean reference, int vectors) {
        int start = at;
        int kind = one();
        long bytes = before * 256 + kind;
        if (kind >= 1 && kind <= 5) {
            return bytes;
        }
        if (kind == 6) {
            return bytes * 256 + name(7, this::structures);
        }
        if (kind == 7 && vectors > 0) {
            return type(bytes, false, vectors - 1);
        }
        refuse(!reference || kind != 8 && kind != 9, 4, start);
        return type(bytes, false, vectors);
    }

    private int structures() {
        return own.size() + foreign.size();
    }

    private interface Bound {
        int get();
    }

    private int name(int reason, Bound bound) {
        int start = at;
        int value = one();
        names.add(() -> refuse(value >= bound.get(), reason, start));
        return value;
    }

    private int ownName() {
        int start = at;
        int value = name(7, this::structures);
        names.add(() -> refuse(value >= own.size(), 8, start));
        return value;
    }

    private long[] instruction(Function function, int count) {
        int start = at;
        int operation = one();
        refuse(operation >= 60, 5, start);
        long[] told = {operation, 0, 0};
        if (operation >= 2 && operation <= 4) {
            int target = at;
            long to = many(2);
            names.add(() -> refuse(to >= count, 13, target));
            told[1] = to;
        } else if (operation == 5) {
            told[1] = one();
        } else if (operation == 6 || operation == 7 || operation == 10) {
            told[1] = many(8);
            told[2] = operation == 7 ? many(8) : 0;
        } else if (operation >= 11 && operation <= 15) {
            told[1] = name(10, () -> function.lists.get(0).size() + function.lists.get(2).size());
        } else if (operation == 16 || operation == 17) {
            int k = ownName();
            told[1] = k;
            told[2] = name(9, () -> own.get(k).fields.size());
        } else if (operation == 21 || operation == 22 || operation >= 47 && operation <= 51) {
            told[1] = ownName();
        } else if (operation == 23) {
            told[1] = name(11, () -> functions.size() + foreignFunctions.size());
        } else if (operation >= 52 && operation <= 58) {
            told[1] = name(12, elements::size);
            told[2] = operation == 52 ? bounded(1, 0, 64) : 0;
        }
        return told;
    }
}
