/** Fords for the tests of edges: all told, in shapes whose answers can be told by hand. */
final class Fords {
    /** The strides of the eight people: the least, the greatest, and those around what the ford's breadth asks for. */
    static final int[] STRIDES = {1, 5, 10, 11, 20, 21, 29, 30};

    private Fords() {
    }

    static SteppingStones people() {
        SteppingStones f = new SteppingStones();
        for (int p = 0; p < STRIDES.length; p++) {
            f.person(p, STRIDES[p]);
        }
        return f;
    }

    /** Forty stones along the ford, at Y 10, stone i at X i. */
    static SteppingStones along() {
        SteppingStones f = people();
        for (int i = 0; i < 40; i++) {
            f.stone(i, i, 10, 9);
        }
        return f;
    }

    /** Forty stones one yard apart, by numbers: by a stride of 1 one crosses over all of them, or not at all. */
    static SteppingStones snake() {
        SteppingStones f = people();
        for (int i = 0; i < 40; i++) {
            int x = i < 10 ? 0 : i < 30 ? i - 9 : 20;
            int y = i < 10 ? i + 1 : i < 30 ? 10 : i - 19;
            f.stone(i, x, y, 9);
        }
        return f;
    }

    /** Two rows over the ford, at X 0 (stones 0 to 19) and X 39 (20 to 39). */
    static SteppingStones twoRows() {
        SteppingStones f = people();
        for (int i = 0; i < 40; i++) {
            f.stone(i, i < 20 ? 0 : 39, 1 + i % 20, 0);
        }
        return f;
    }

    static void allUnder(SteppingStones f) {
        for (int i = 0; i < 40; i++) {
            f.under(i, true);
        }
    }

    /** Fills the tape with as many rows of twenty bytes, all of them this byte. */
    static void tape(SteppingStones f, int feeds, int sign) {
        int four = sign * 0x01010101;
        for (int k = 0; k < feeds; k++) {
            f.feed(four, four, four, four, four);
        }
    }

    /** Lets nights go by till this one. */
    static void toNight(SteppingStones f, int night) {
        while (f.count(0) + 60 <= night) {
            f.nights(60);
        }
        if (f.count(0) < night) {
            f.nights(night - f.count(0));
        }
    }
}
