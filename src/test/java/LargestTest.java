/** The most of everything at once: more bytes than 512 calls can type, but the class keeps to its answers there too. */
public final class LargestTest {
    public static void main(String[] args) {
        Check.sentence("What it is", "each row of bytes is taken apart into tables");
        byte[] field = Bytes.of(7, 7, 7, 7, 6, 63);
        byte[] listed = Bytes.of(8, 7, 7, 7, 7, 6, 31);
        byte[] structure = Bytes.join(Bytes.of(15, 16), Parts.times(16, field));
        byte[] lists = Bytes.join(Bytes.of(7, 8), Parts.times(8, listed), Bytes.of(8), Parts.times(8, listed));
        byte[] further = Bytes.join(Bytes.of(32), Parts.times(32, listed));
        byte[] foreignFunction = Bytes.join(Bytes.of(255, 255, 255), lists);
        byte[] long1024 = Bytes.join(lists, further, Bytes.of(4, 0), Bytes.repeated(1024, 11, 39));
        byte[] short1 = Bytes.join(lists, further, Bytes.of(0, 1, 23, 95));
        byte[] long968 = Bytes.join(lists, further, Bytes.of(968 >> 8, 968 & 255), Bytes.repeated(968, 53, 31));
        byte[] row = Bytes.module(
            Bytes.of(32), Parts.times(32, structure),
            Bytes.of(32), Bytes.repeated(32, 255, 255, 255, 15),
            Bytes.of(32), Parts.times(32, foreignFunction),
            Bytes.of(32), Parts.times(32, field),
            Bytes.of(64), Parts.times(7, long1024), Parts.times(56, short1), long968);
        Reference reference = new Reference(row);
        Check.due("the reference", reference.why, 0);
        Check.due("the reference's instructions", reference.instructions, 8192);
        Comparison.of("largest", row, reference);
        Check.end();
    }
}
