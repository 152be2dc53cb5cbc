import java.util.Arrays;

/** Rows of bytes for the tests: written out, joined, changed, and typed on a tape. */
final class Bytes {
    private Bytes() {
    }

    static byte[] of(int... values) {
        byte[] row = new byte[values.length];
        for (int i = 0; i < values.length; i++) {
            row[i] = (byte) values[i];
        }
        return row;
    }

    static byte[] join(byte[]... rows) {
        byte[] all = new byte[0];
        for (byte[] row : rows) {
            int end = all.length;
            all = Arrays.copyOf(all, end + row.length);
            System.arraycopy(row, 0, all, end, row.length);
        }
        return all;
    }

    static byte[] repeated(int times, int... values) {
        byte[] once = of(values);
        byte[] all = new byte[times * once.length];
        for (int i = 0; i < all.length; i++) {
            all[i] = once[i % once.length];
        }
        return all;
    }

    /** Eight bytes, the higher ones first. */
    static byte[] longs(long value) {
        byte[] row = new byte[8];
        for (int i = 0; i < 8; i++) {
            row[i] = (byte) (value >>> 56 - 8 * i);
        }
        return row;
    }

    static byte[] with(byte[] row, int place, int value) {
        byte[] changed = row.clone();
        changed[place] = (byte) value;
        return changed;
    }

    static byte[] cut(byte[] row, int length) {
        return Arrays.copyOf(row, length);
    }

    /** The mark and the number 7; behind them the given rows. */
    static byte[] module(byte[]... rows) {
        return join(of(82, 76, 77, 49, 0, 7), join(rows));
    }

    static void type(CodeTables x, byte[] row) {
        for (int from = 0; from < row.length; from += 8) {
            int n = Math.min(8, row.length - from);
            long bytes = 0;
            for (int i = 0; i < n; i++) {
                bytes = bytes << 8 | row[from + i] & 255;
            }
            x.type(bytes, n);
        }
    }

    static CodeTables typed(byte[] row) {
        CodeTables x = new CodeTables();
        type(x, row);
        return x;
    }
}
