/** A module with something of everything, and the places of its parts. */
final class Sample {
    private Sample() {
    }

    static byte[] bytes() {
        return Bytes.join(
            Bytes.of(82, 76, 77, 49, 0x12, 0x34),         // 0: mark and number
            Bytes.of(2),                                  // 6: own structures
            Bytes.of(15, 3, 1, 7, 6, 1, 7, 7, 7, 7, 5),   // 7: structure 0: truth, vector of 1, four vectors of address
            Bytes.of(0, 1, 6, 3),                         // 18: structure 1: a foreign structure
            Bytes.of(2),                                  // 22: foreign structures
            Bytes.of(0xFF, 0xFE, 255, 8),                 // 23: structure 2
            Bytes.of(0, 9, 0, 0),                         // 27: structure 3
            Bytes.of(2),                                  // 31: foreign functions
            Bytes.of(1, 2, 250, 7, 2, 9, 6, 2, 4, 1, 8, 7, 7, 7, 7, 6, 0), // 32: function 2
            Bytes.of(0, 0, 0, 0, 0, 0),                   // 49: function 3
            Bytes.of(3, 2, 7, 6, 3, 6, 0),                // 55: element types
            Bytes.of(2),                                  // 62: own functions
            Bytes.of(5, 1, 3, 2, 9, 7, 2, 2, 2, 8, 4, 6, 1), // 63: function 0: flags and lists
            Bytes.of(0, 12),                              // 76: its instructions
            Bytes.of(5, 200, 11, 0, 15, 2, 16, 0, 2, 21, 1, 23, 3),     // 78: 0 .. 5
            Bytes.of(52, 2, 64, 58, 1, 4, 0, 11),         // 91: 6 .. 8
            Bytes.of(10, 0x80, 1, 2, 3, 4, 5, 6, 7),      // 99: 9
            Bytes.of(7, 0xFF, 0xFF, 0xFF, 0xFF, 0xFF, 0xFF, 0xFF, 0xFE, 0, 0, 0, 0, 0, 0, 0, 9), // 108: 10
            Bytes.of(59),                                 // 125: 11
            Bytes.of(0, 0, 0, 0, 0, 1, 1));               // 126: function 1: one instruction
    }

    static final int LENGTH = 133;
}
