/** Numbers far from all that there is, and such that wrap around to small places when they are multiplied. */
final class Far {
    static final int[] AWAY = {
        Integer.MIN_VALUE, Integer.MIN_VALUE + 1, -65536, -256, -64, -32, -16, -8, -4, -2,
        97, 128, 255, 256, 8192, 65536, 1 << 26, 1 << 27, 1 << 28, 1 << 29, 1 << 30,
        (1 << 30) + 1, 613566757, 89478486, Integer.MAX_VALUE - 1, Integer.MAX_VALUE};

    private Far() {
    }
}
