/** Promises 13 to 22: who crosses, and how. */
public final class WaysTest {
    public static void main(String[] args) {
        cross();
        leastRow();
        manyRows();
        driest();
        leastStride();
        howFar();
        hold();
        oneMore();
        islands();
        key();
        meet();
        market();
        Due.end();
    }

    /** Four stones in a row, four apart: 4, 8, 12, 16 at X 10. */
    private static SteppingStones row() {
        SteppingStones f = new SteppingStones();
        for (int i = 0; i < 4; i++) {
            f.stone(i, 10, 4 + 4 * i, 0);
        }
        f.person(0, 5);
        f.person(1, 4);
        f.person(2, 21);
        f.person(3, 20);
        return f;
    }

    private static void cross() {
        SteppingStones f = row();
        Due.is("steps", f.cross(0, 100), 5);
        Due.is("rows", f.cross(0, 101), 1);
        for (int k = 0; k < 4; k++) {
            Due.is("stone " + k, f.cross(0, k), k);
        }
        Due.is("behind the row", f.cross(0, 4), -4);
        Due.is("place 39", f.cross(0, 39), -4);
        int[] whats = {-1, 40, 99, 102, Integer.MIN_VALUE, Integer.MAX_VALUE};
        for (int what : whats) {
            Due.is("what " + what, f.cross(0, what), -1);
        }
        int[] people = {-1, 4, 7, 8, Integer.MIN_VALUE, Integer.MAX_VALUE};
        for (int p : people) {
            Due.is("p " + p, f.cross(p, 100), -1);
        }
        Due.is("can't", f.cross(1, 100), -2);
        Due.is("can't, rows", f.cross(1, 101), -2);
        Due.is("can't, place", f.cross(1, 0), -2);
        Due.is("in one step", f.cross(2, 100), 1);
        Due.is("one row of none", f.cross(2, 101), 1);
        Due.is("no place in it", f.cross(2, 0), -4);
        Due.is("by 20", f.cross(3, 100), 2);
        Due.is("by 20, rows", f.cross(3, 101), 4);
        Due.is("by 20, the lowest", f.cross(3, 0), 0);
        f.under(0, true);
        Due.is("one under", f.cross(0, 100), -2);
        Due.is("the next lowest", f.cross(3, 0), 1);
        SteppingStones empty = new SteppingStones();
        empty.person(0, 20);
        empty.person(1, 21);
        Due.is("no stones, 20", empty.cross(0, 100), -2);
        Due.is("no stones, 21", empty.cross(1, 100), 1);
    }

    private static void leastRow() {
        SteppingStones f = new SteppingStones();
        f.person(0, 8);
        f.stone(9, 10, 7, 0);
        f.stone(3, 12, 14, 0);
        f.stone(5, 30, 7, 0);
        f.stone(8, 30, 14, 0);
        Due.is("the lower first stone", f.cross(0, 0), 5);
        Due.is("and its second", f.cross(0, 1), 8);
        f.stone(4, 31, 14, 0);
        Due.is("the lowest second of it", f.cross(0, 1), 4);
        Due.is("three rows", f.cross(0, 101), 3);
        f.stone(2, 20, 7, 0);
        Due.is("a first one that leads nowhere", f.cross(0, 0), 5);
        f.stone(1, 20, 13, 0);
        Due.is("a way over the lowest", f.cross(0, 0), 2);
        Due.is("its second", f.cross(0, 1), 1);
    }

    private static void manyRows() {
        SteppingStones f = new SteppingStones();
        f.person(0, 2);
        f.person(1, 5);
        for (int i = 0; i < 40; i++) {
            f.stone(i, i % 4, 2 + 2 * (i / 4), 0);
        }
        Due.is("ten layers of four", f.cross(0, 100), 11);
        Due.is("straight on alone", f.cross(0, 101), 4);
        for (int i = 0; i < 40; i++) {
            f.take(i);
        }
        for (int i = 0; i < 40; i++) {
            f.stone(i, i % 10, 4 + 4 * (i / 10), 0);
        }
        Due.is("four layers of ten", f.cross(1, 100), 5);
        long[] rows = new long[10];
        java.util.Arrays.fill(rows, 1);
        for (int layer = 0; layer < 3; layer++) {
            long[] next = new long[10];
            for (int a = 0; a < 10; a++) {
                for (int b = Math.max(0, a - 3); b <= Math.min(9, a + 3); b++) {
                    next[b] += rows[a];
                }
            }
            rows = next;
        }
        Due.is("their rows", f.cross(1, 101), java.util.Arrays.stream(rows).sum());
    }

    private static void driest() {
        SteppingStones f = row();
        Due.is("dry", f.driest(0, 0), 0);
        Due.is("its steps", f.driest(0, 1), 5);
        f.stone(1, 10, 8, 3);
        f.stone(4, 13, 8, 2);
        Due.is("by the other one", f.driest(0, 0), 2);
        f.stone(5, 14, 6, 0);
        f.stone(6, 14, 10, 1);
        Due.is("a longer way", f.driest(0, 0), 1);
        Due.is("of six", f.driest(0, 1), 6);
        f.under(6, true);
        Due.is("without 6", f.driest(0, 1), 5);
        Due.is("can't", f.driest(1, 0), -2);
        Due.is("can't, steps", f.driest(1, 1), -2);
        Due.is("over", f.driest(2, 0), 0);
        Due.is("over in one", f.driest(2, 1), 1);
        Due.is("no such one", f.driest(4, 0), -1);
        Due.is("what 2", f.driest(0, 2), -1);
        Due.is("what -1", f.driest(0, -1), -1);
    }

    private static void leastStride() {
        SteppingStones f = row();
        Due.is("5", f.leastStride(), 5);
        f.stone(4, 10, 20, 0);
        Due.is("4", f.leastStride(), 4);
        f.under(0, true);
        Due.is("8", f.leastStride(), 8);
        SteppingStones full = new SteppingStones();
        for (int y = 1; y <= 20; y++) {
            full.stone(y, 3, y, 0);
        }
        Due.is("1", full.leastStride(), 1);
        SteppingStones empty = new SteppingStones();
        Due.is("21", empty.leastStride(), 21);
        empty.stone(0, 0, 1, 0);
        Due.is("20", empty.leastStride(), 20);
    }

    private static void howFar() {
        SteppingStones f = row();
        Due.is("across", f.howFar(0), 21);
        Due.is("16", f.howFar(1), 16);
        f.person(4, 3);
        Due.is("nowhere", f.howFar(4), 0);
        f.stone(5, 39, 3, 0);
        Due.is("3", f.howFar(4), 3);
        Due.is("over", f.howFar(2), 21);
        Due.is("no such one", f.howFar(7), -1);
        Due.is("p -1", f.howFar(-1), -1);
    }

    private static void hold() {
        SteppingStones f = row();
        Due.is("1", f.hold(0), 1);
        Due.is("can't cross", f.hold(1), 0);
        Due.is("21", f.hold(2), -2);
        Due.is("by 20", f.hold(3), 4);
        Due.is("no such one", f.hold(4), -1);
        for (int i = 0; i < 4; i++) {
            f.stone(10 + i, 13, 4 + 4 * i, 0);
        }
        Due.is("2", f.hold(0), 2);
        f.under(11, true);
        Due.is("1 again", f.hold(0), 1);
        // Two ways of which the shortest uses a stone of each: it must be taken back.
        SteppingStones z = new SteppingStones();
        z.person(0, 7);
        z.stone(0, 10, 7, 0);
        z.stone(1, 10, 14, 0);
        z.stone(2, 14, 5, 0);
        z.stone(3, 14, 10, 0);
        z.stone(4, 6, 11, 0);
        z.stone(5, 6, 17, 0);
        z.take(1);
        z.stone(6, 15, 16, 0);
        Due.is("two ways", z.hold(0), 2);
        // The shortest way (0, 1, 2) must give up its middle, whichever numbers the stones have.
        int[] x = {10, 10, 13, 5, 3, 3, 17, 17};
        int[] y = {6, 12, 16, 8, 13, 19, 6, 12};
        for (int first = 0; first < 40; first++) {
            SteppingStones m = new SteppingStones();
            m.person(0, 6);
            for (int k = 0; k < x.length; k++) {
                m.stone((first + k) % 40, x[k], y[k], 0);
            }
            Due.is("without the middle, from " + first, m.hold(0), 2);
            m.under((first + 4) % 40, true);
            Due.is("one way or the other, from " + first, m.hold(0), 1);
        }
        // Here a third way is found only by giving up a stone of an earlier one for good.
        Due.is("three ways", holdOf(6, new int[][] {{3, 17}, {16, 15}, {15, 15}, {5, 10}, {10, 17}, {14, 8}, {10, 12},
            {17, 20}, {8, 9}, {1, 16}, {19, 19}, {16, 5}, {21, 12}, {5, 8}, {21, 18}, {3, 3}, {7, 17}, {9, 13}, {2, 6},
            {20, 9}, {8, 3}, {2, 2}}), 3);
        // And here the part that is given up leads to stone 0.
        Due.is("three by 7", holdOf(7, new int[][] {{2, 7}, {1, 17}, {3, 19}, {2, 15}, {3, 14}, {2, 10}, {0, 20}, {0, 12},
            {1, 7}, {3, 3}, {0, 4}, {4, 1}, {2, 14}}), 3);
        // A stone (1) that the second way makes the first one give up is free again for a third one.
        Due.is("given up and taken again", holdOf(6, new int[][] {{21, 6}, {20, 11}, {17, 15}, {26, 9}, {26, 14}, {29, 16},
            {14, 4}, {14, 10}, {39, 3}, {38, 8}, {32, 8}, {31, 8}, {11, 13}, {7, 9}, {4, 11}, {0, 14}, {0, 20}}), 3);
        // A way that only turns back along an earlier one is not one more.
        Due.is("turned back", holdOf(6, new int[][] {{14, 6}, {23, 12}, {19, 16}, {9, 7}, {11, 12}, {7, 16}, {20, 3},
            {17, 11}, {35, 4}, {32, 7}, {28, 8}, {25, 8}, {26, 14}, {30, 14}, {33, 13}, {39, 13}, {38, 18}}), 2);
    }

    private static int holdOf(int stride, int[][] places) {
        SteppingStones f = new SteppingStones();
        f.person(0, stride);
        for (int i = 0; i < places.length; i++) {
            f.stone(i, places[i][0], places[i][1], 0);
        }
        return f.hold(0);
    }

    private static void oneMore() {
        SteppingStones f = row();
        Due.is("can cross", f.oneMore(0, 0), -3);
        Due.is("over", f.oneMore(2, 1), -3);
        Due.is("x", f.oneMore(1, 0), 7);
        Due.is("y", f.oneMore(1, 1), 17);
        f.stone(9, 7, 17, 0);
        f.under(9, true);
        Due.is("a place that is taken", f.oneMore(1, 0), 8);
        f.person(5, 1);
        Due.is("none would do", f.oneMore(5, 0), -2);
        Due.is("no such one", f.oneMore(6, 0), -1);
        Due.is("what 2", f.oneMore(1, 2), -1);
        SteppingStones empty = new SteppingStones();
        empty.person(0, 11);
        empty.person(1, 10);
        Due.is("empty x", empty.oneMore(0, 0), 0);
        Due.is("empty y", empty.oneMore(0, 1), 10);
        Due.is("empty, 10", empty.oneMore(1, 0), -2);
        SteppingStones edge = new SteppingStones();
        edge.person(0, 7);
        edge.stone(0, 39, 7, 0);
        Due.is("behind stone 0 alone, x", edge.oneMore(0, 0), 39);
        Due.is("behind stone 0 alone, y", edge.oneMore(0, 1), 14);
        edge.stone(0, 0, 14, 0);
        Due.is("ahead of stone 0 alone, x", edge.oneMore(0, 0), 0);
        Due.is("ahead of stone 0 alone, y", edge.oneMore(0, 1), 7);
        edge.person(1, 19);
        edge.take(0);
        Due.is("Y 2 is the lowest by 19", edge.oneMore(1, 1), 2);
        for (int y = 1; y < 20; y++) {
            edge.stone(y, 3, y, 0);
        }
        edge.person(2, 1);
        Due.is("Y 20 is all that is wanting", edge.oneMore(2, 1), 20);
        Due.is("at X 3", edge.oneMore(2, 0), 3);
        for (int y = 1; y < 20; y++) {
            edge.take(y);
        }
        edge.person(1, 20);
        Due.is("Y 1 is the lowest by 20", edge.oneMore(1, 1), 1);
    }

    private static void islands() {
        SteppingStones f = row();
        f.stone(4, 13, 8, 0);
        Due.is("5", f.islands(5, 100), 1);
        Due.is("3", f.islands(3, 100), 4);
        Due.is("of 4", f.islands(3, 4), 2);
        Due.is("of 0", f.islands(3, 0), 1);
        f.under(1, true);
        Due.is("one under", f.islands(3, 1), 0);
        Due.is("how many", f.islands(3, 100), 4);
        Due.is("banks do not count", f.islands(30, 100), 1);
        Due.is("stride 0", f.islands(0, 100), -1);
        Due.is("stride 31", f.islands(31, 100), -1);
        Due.is("not told", f.islands(3, 5), -1);
        Due.is("what -1", f.islands(3, -1), -1);
        Due.is("what 40", f.islands(3, 40), -1);
        Due.is("what 101", f.islands(3, 101), -1);
        SteppingStones apart = new SteppingStones();
        apart.stone(0, 0, 1, 0);
        apart.stone(1, 39, 1, 0);
        Due.is("a bank joins none", apart.islands(30, 100), 2);
        Due.is("no stones", new SteppingStones().islands(1, 100), 0);
    }

    private static void key() {
        SteppingStones f = row();
        Due.is("all four", f.key(0, 0), 4);
        Due.is("0", f.key(0, 1), 0);
        f.stone(20, 13, 4, 0);
        Due.is("three", f.key(0, 0), 3);
        Due.is("1", f.key(0, 1), 1);
        Due.is("can't", f.key(1, 0), -3);
        Due.is("can't, lowest", f.key(1, 1), -3);
        Due.is("none", f.key(2, 0), 0);
        Due.is("no lowest", f.key(2, 1), -2);
        Due.is("no such one", f.key(5, 0), -1);
        Due.is("what 2", f.key(0, 2), -1);
        Due.is("nothing went under", f.count(2), 0);
        SteppingStones last = new SteppingStones();
        last.person(0, 11);
        last.stone(39, 0, 10, 0);
        Due.is("39 alone", last.key(0, 0), 1);
        Due.is("39", last.key(0, 1), 39);
    }

    private static void meet() {
        SteppingStones f = row();
        Due.is("steps", f.meet(0, 0, 0), 3);
        Due.is("stone", f.meet(0, 0, 1), 1);
        Due.is("one with a longer stride", f.meet(2, 0, 0), 1);
        Due.is("on the stone that the other comes to", f.meet(2, 0, 1), 3);
        Due.is("the other way", f.meet(0, 2, 1), 0);
        Due.is("nowhere", f.meet(0, 1, 0), -2);
        Due.is("nowhere, stone", f.meet(0, 1, 1), -2);
        Due.is("p", f.meet(5, 0, 0), -1);
        Due.is("q", f.meet(0, 5, 0), -1);
        Due.is("what", f.meet(0, 0, 2), -1);
        // By the words on A STEP one may also step to the far bank and from it again.
        f.stone(9, 30, 18, 0);
        Due.is("over the far bank", f.meet(0, 1, 0), 6);
        Due.is("over the far bank, stone", f.meet(0, 1, 1), 9);
        f.person(4, 3);
        f.stone(8, 30, 3, 0);
        Due.is("over the near bank", f.meet(4, 0, 0), 6);
        Due.is("over the near bank, stone", f.meet(4, 0, 1), 8);
    }

    private static void market() {
        SteppingStones f = row();
        Due.is("0, 2, 3", f.market(), 13);
        f.person(7, 30);
        Due.is("7, too", f.market(), 141);
        f.under(3, true);
        Due.is("0 no more", f.market(), 140);
        SteppingStones yards = new SteppingStones();
        yards.person(1, 1);
        Due.is("none", yards.market(), 0);
        for (int y = 1; y <= 20; y++) {
            yards.stone(y, 5, y, 0);
        }
        Due.is("by a stride of 1", yards.market(), 2);
    }
}
