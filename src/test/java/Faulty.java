/** The sample with one fault in it, for each of the faults 1 to 14. */
final class Faulty {
    static final int LAST = 14;
    // Where the sample is changed, and to what; 2 and 6 change its length instead.
    private static final int[] CHANGED = {0, 0, 0, 7, 9, 125, 0, 21, 88, 86, 83, 90, 95, 98, 21};
    private static final int[] VALUES = {0, 83, 0, 16, 8, 60, 0, 4, 2, 3, 3, 4, 3, 12, 0};
    private static final int[] PLACES = {0, 0, 132, 7, 9, 125, 133, 21, 88, 86, 83, 90, 95, 97, 7};

    private Faulty() {
    }

    static byte[] sample(int why) {
        if (why == 2) {
            return Bytes.cut(Sample.bytes(), Sample.LENGTH - 1);
        }
        if (why == 6) {
            return Bytes.join(Sample.bytes(), Bytes.of(0));
        }
        return Bytes.with(Sample.bytes(), CHANGED[why], VALUES[why]);
    }

    static int place(int why) {
        return PLACES[why];
    }
}
