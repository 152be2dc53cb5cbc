/** What the calls answer while there is no module. */
final class NoModule {
    private static final int[] SOME = {-1, 0, 1};

    private NoModule() {
    }

    /** Some 100 calls. */
    static void of(String name, CodeTables x) {
        for (int what = -1; what <= 7; what++) {
            Check.due(name + ": told(" + what + ")", x.told(what), CodeTables.BAD);
        }
        for (int k : SOME) {
            for (int what = 0; what <= 3; what++) {
                Check.due(name + ": structure(" + k + ", " + what + ")", x.structure(k, what), CodeTables.BAD);
            }
            for (int what = 0; what <= 6; what++) {
                Check.due(name + ": function(" + k + ", " + what + ")", x.function(k, what), CodeTables.BAD);
            }
            for (int i : SOME) {
                Check.due(name + ": field(" + k + ", " + i + ")", x.field(k, i), 0);
                Check.due(name + ": listed(" + k + ", 0, " + i + ")", x.listed(k, 0, i), 0);
                Check.due(name + ": listed(" + k + ", 2, " + i + ")", x.listed(k, 2, i), 0);
                Check.due(name + ": operation(" + k + ", " + i + ")", x.operation(k, i), CodeTables.BAD);
                Check.due(name + ": operand(" + k + ", " + i + ", 0)", x.operand(k, i, 0), 0);
            }
            Check.due(name + ": element(" + k + ")", x.element(k), 0);
        }
        Check.due(name + ": write()", x.write(), CodeTables.BAD);
    }
}
