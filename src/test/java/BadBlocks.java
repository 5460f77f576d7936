/** "A BLOCK: a LENGTH (1 to 40) and FLAWS (bits of a long: place i is flawed)": such as are none. */
final class BadBlocks {
    interface Look {
        void at(int length, long flaws);
    }

    private BadBlocks() {
    }

    static void each(Look look) {
        for (int length : Due.outside(1, 40)) {
            look.at(length, 0);
        }
        look.at(0, 1);
        look.at(41, 1L << 40);
        look.at(64, 0);
        look.at(64, 1);
        look.at(65, 0);
        look.at(-24, 0);
        eachBeyond(look);
    }

    /** "FLAWS beyond its LENGTH" */
    private static void eachBeyond(Look look) {
        for (int length : new int[] {1, 2, 3, 20, 31, 32, 33, 39, 40}) {
            look.at(length, 1L << length);
            look.at(length, (1L << length) + 1);
            look.at(length, 1L << length + 1);
            look.at(length, 1L << 62);
            look.at(length, Long.MIN_VALUE);
            look.at(length, -1L);
            look.at(length, -1L << length);
        }
        look.at(1, 1L << 32);
        look.at(3, 1L << 40);
    }
}
