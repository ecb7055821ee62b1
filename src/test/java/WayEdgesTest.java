/** Promises 13 to 22 and 24 at their edges: a stride that just does, nothing told, all told, all under. */
public final class WayEdgesTest {
    public static void main(String[] args) {
        aStep();
        aStepOfABank();
        aStepWithDryStones();
        nothingTold();
        allUnder();
        allAlong();
        allInASnake();
        allInTwoRows();
        crossPlaces();
        manyRows();
        driestBounds();
        leastStride();
        howFar();
        hold();
        oneMore();
        oneMoreWhenAllAreTold();
        islands();
        key();
        meet();
        market();
        walkFrom();
        walkBanks();
        walkStride();
        walkEnds();
        Due.end();
    }

    private static SteppingStones ford(int stride, int[]... places) {
        SteppingStones f = new SteppingStones();
        f.person(0, stride);
        for (int i = 0; i < places.length; i++) {
            f.stone(i, places[i][0], places[i][1], 0);
        }
        return f;
    }

    /** Squares added up no more than the STRIDE's square: as far is no farther, one square more is. */
    private static void aStep() {
        int[][] apart = {{0, 1}, {3, 4}, {5, 12}, {0, 7}, {9, 0}, {8, 15}, {20, 15}, {24, 18}, {23, 19}, {25, 18}};
        for (int[] d : apart) {
            SteppingStones f = new SteppingStones();
            f.stone(0, 5, 1, 0);
            f.stone(1, 5 + d[0], 1 + d[1], 0);
            int squares = d[0] * d[0] + d[1] * d[1];
            for (int stride = 1; stride <= 30; stride++) {
                Due.is("a step of " + squares + " by " + stride, f.islands(stride, 0), squares <= stride * stride ? 2 : 1);
                Due.is("and back", f.islands(stride, 1), squares <= stride * stride ? 2 : 1);
            }
        }
        SteppingStones near = new SteppingStones();
        near.stone(0, 10, 10, 0);
        near.stone(1, 13, 14, 0);
        Due.is("25 by 5", near.islands(5, 100), 1);
        near.stone(1, 15, 11, 0);
        Due.is("26 by 5", near.islands(5, 100), 2);
        near.stone(1, 14, 12, 0);
        Due.is("20 by 5", near.islands(5, 100), 1);
    }

    /** Of Y alone is asked, whatever the X. */
    private static void aStepOfABank() {
        for (int y = 1; y <= 20; y++) {
            for (int x = 0; x <= 39; x += 39) {
                SteppingStones f = ford(y, new int[] {x, y});
                Due.is("from the near bank to " + y, f.howFar(0), y >= 21 - y ? 21 : y);
                if (y > 1) {
                    f.person(0, y - 1);
                    Due.is("not by one less", f.howFar(0), 0);
                }
                int least = Math.max(y, 21 - y);
                Due.is("least stride over " + y, f.leastStride(), least);
                f.person(0, least);
                Due.is("two steps over " + y, f.cross(0, 100), 2);
                if (least > 1) {
                    f.person(0, least - 1);
                    Due.is("none by one less", f.cross(0, 100), -2);
                }
            }
        }
        SteppingStones bare = new SteppingStones();
        for (int stride = 1; stride <= 30; stride++) {
            bare.person(0, stride);
            Due.is("from bank to bank by " + stride, bare.cross(0, 100), stride >= 21 ? 1 : -2);
        }
    }

    private static void aStepWithDryStones() {
        SteppingStones f = ford(7, new int[] {0, 7}, new int[] {0, 14});
        Due.is("dry", f.cross(0, 100), 3);
        f.under(0, true);
        Due.is("the first under", f.cross(0, 100), -2);
        Due.is("one comes nowhere", f.howFar(0), 0);
        f.under(0, false);
        f.under(1, true);
        Due.is("the second under", f.cross(0, 100), -2);
        Due.is("one comes to the first", f.howFar(0), 7);
        f.take(1);
        Due.is("the second taken out", f.howFar(0), 7);
    }

    private static void cannotCross(String where, SteppingStones f, int p) {
        Due.is(where + ": steps", f.cross(p, 100), -2);
        Due.is(where + ": rows", f.cross(p, 101), -2);
        Due.is(where + ": place 0", f.cross(p, 0), -2);
        Due.is(where + ": place 39", f.cross(p, 39), -2);
        Due.is(where + ": slippery", f.driest(p, 0), -2);
        Due.is(where + ": driest steps", f.driest(p, 1), -2);
        Due.is(where + ": hold", f.hold(p), 0);
        Due.is(where + ": keys", f.key(p, 0), -3);
        Due.is(where + ": the lowest key", f.key(p, 1), -3);
    }

    private static void stepsOver(String where, SteppingStones f, int p) {
        Due.is(where + ": steps", f.cross(p, 100), 1);
        Due.is(where + ": rows", f.cross(p, 101), 1);
        Due.is(where + ": place 0", f.cross(p, 0), -4);
        Due.is(where + ": place 39", f.cross(p, 39), -4);
        Due.is(where + ": slippery", f.driest(p, 0), 0);
        Due.is(where + ": driest steps", f.driest(p, 1), 1);
        Due.is(where + ": hold", f.hold(p), -2);
        Due.is(where + ": how far", f.howFar(p), 21);
        Due.is(where + ": one more, X", f.oneMore(p, 0), -3);
        Due.is(where + ": one more, Y", f.oneMore(p, 1), -3);
        Due.is(where + ": keys", f.key(p, 0), 0);
        Due.is(where + ": the lowest key", f.key(p, 1), -2);
    }

    private static void nothingTold() {
        SteppingStones f = Fords.people();
        for (int p = 0; p < 5; p++) {
            cannotCross("nothing told, " + p, f, p);
            Due.is("nothing told, how far " + p, f.howFar(p), 0);
        }
        for (int p = 5; p < 8; p++) {
            stepsOver("nothing told, " + p, f, p);
        }
        Due.is("nothing told, least stride", f.leastStride(), 21);
        Due.is("nothing told, market", f.market(), 0xE0);
        for (int stride = 1; stride <= 30; stride++) {
            Due.is("nothing told, islands by " + stride, f.islands(stride, 100), 0);
        }
        Due.is("nothing told, island of 0", f.islands(30, 0), -1);
        Due.is("nothing told, nobody meets", f.meet(7, 7, 0), -2);
        Due.is("nothing told, nowhere", f.meet(7, 7, 1), -2);
        SteppingStones nobody = new SteppingStones();
        Due.is("nobody told, market", nobody.market(), 0);
        for (int p = 0; p < 8; p++) {
            Due.is("nobody told, cross", nobody.cross(p, 100), -1);
            Due.is("nobody told, meet", nobody.meet(p, p, 0), -1);
        }
    }

    private static void allUnder() {
        SteppingStones f = Fords.along();
        Fords.allUnder(f);
        for (int p = 0; p < 5; p++) {
            cannotCross("all under, " + p, f, p);
            Due.is("all under, how far " + p, f.howFar(p), 0);
        }
        for (int p = 5; p < 8; p++) {
            stepsOver("all under, " + p, f, p);
        }
        Due.is("all under, least stride", f.leastStride(), 21);
        Due.is("all under, market", f.market(), 0xE0);
        Due.is("all under, islands", f.islands(30, 100), 0);
        for (int i = 0; i < 40; i++) {
            Due.is("all under, island of " + i, f.islands(30, i), 0);
        }
        Due.is("all under, nobody meets", f.meet(7, 7, 0), -2);
        Due.is("all under, nowhere", f.meet(7, 7, 1), -2);
    }

    private static void allAlong() {
        SteppingStones f = Fords.along();
        for (int p = 0; p < 3; p++) {
            cannotCross("along, " + p, f, p);
        }
        for (int p = 3; p < 5; p++) {
            Due.is("along, steps", f.cross(p, 100), 2);
            Due.is("along, rows", f.cross(p, 101), 40);
            Due.is("along, place 0", f.cross(p, 0), 0);
            Due.is("along, place 1", f.cross(p, 1), -4);
            Due.is("along, slippery", f.driest(p, 0), 9);
            Due.is("along, all forty must go under", f.hold(p), 40);
            Due.is("along, no key", f.key(p, 0), 0);
            Due.is("along, no lowest key", f.key(p, 1), -2);
        }
        for (int p = 5; p < 8; p++) {
            stepsOver("along, " + p, f, p);
        }
        Due.is("along, how far by 5", f.howFar(1), 0);
        Due.is("along, how far by 10", f.howFar(2), 10);
        Due.is("along, how far by 11", f.howFar(3), 21);
        Due.is("along, least stride", f.leastStride(), 11);
        Due.is("along, market", f.market(), 0xF8);
        Due.is("along, one island", f.islands(1, 100), 1);
        Due.is("along, of forty", f.islands(1, 39), 40);
        Due.is("along, they meet by", f.meet(3, 3, 0), 1);
        Due.is("along, on the lowest", f.meet(3, 3, 1), 0);
        for (int i = 0; i < 39; i++) {
            f.under(i, true);
        }
        Due.is("the last alone holds", f.hold(3), 1);
        Due.is("it is the key", f.key(3, 0), 1);
        Due.is("it is the lowest", f.key(3, 1), 39);
        Due.is("it is the row", f.cross(3, 0), 39);
        Due.is("they meet on it", f.meet(3, 3, 1), 39);
    }

    private static void allInASnake() {
        SteppingStones f = Fords.snake();
        Due.is("snake, steps", f.cross(0, 100), 41);
        Due.is("snake, rows", f.cross(0, 101), 1);
        for (int place = 0; place < 40; place++) {
            Due.is("snake, place " + place, f.cross(0, place), place);
        }
        Due.is("snake, place 40 is none", f.cross(0, 40), -1);
        Due.is("snake, slippery", f.driest(0, 0), 360);
        Due.is("snake, driest steps", f.driest(0, 1), 41);
        Due.is("snake, hold", f.hold(0), 1);
        Due.is("snake, all are keys", f.key(0, 0), 40);
        Due.is("snake, the lowest", f.key(0, 1), 0);
        Due.is("snake, least stride", f.leastStride(), 1);
        Due.is("snake, island", f.islands(1, 0), 40);
        Due.is("snake, they meet by", f.meet(0, 0, 0), 21);
        Due.is("snake, on the lower of two", f.meet(0, 0, 1), 19);
        Due.is("snake, market", f.market(), 255);
        f.under(20, true);
        cannotCross("broken snake", f, 0);
        Due.is("broken snake, how far", f.howFar(0), 10);
        Due.is("broken snake, islands", f.islands(1, 100), 2);
        Due.is("broken snake, the first", f.islands(1, 0), 20);
        Due.is("broken snake, the second", f.islands(1, 39), 19);
        Due.is("broken snake, the one under", f.islands(1, 20), 0);
        Due.is("broken snake, nobody meets", f.meet(0, 0, 0), -2);
    }

    private static void allInTwoRows() {
        SteppingStones f = Fords.twoRows();
        Due.is("two rows, steps", f.cross(0, 100), 21);
        Due.is("two rows, rows", f.cross(0, 101), 2);
        Due.is("two rows, last place", f.cross(0, 19), 19);
        Due.is("two rows, none behind it", f.cross(0, 20), -4);
        Due.is("two rows, hold by 1", f.hold(0), 2);
        Due.is("two rows, hold by 20", f.hold(4), 40);
        Due.is("two rows, no key", f.key(0, 0), 0);
        Due.is("two rows, islands", f.islands(30, 100), 2);
        Due.is("two rows, of twenty", f.islands(1, 39), 20);
        Due.is("two rows, they meet by", f.meet(0, 0, 0), 11);
        Due.is("two rows, on the lowest", f.meet(0, 0, 1), 9);
        f.under(0, true);
        Due.is("one row, the lowest key", f.key(0, 1), 20);
        Due.is("one row, keys", f.key(0, 0), 20);
        Due.is("one row, the last key is place 19", f.cross(0, 19), 39);
    }

    private static void crossPlaces() {
        SteppingStones f = ford(11, new int[] {0, 10});
        Due.is("a row of one", f.cross(0, 0), 0);
        for (int place = 1; place < 40; place++) {
            Due.is("no place " + place, f.cross(0, place), -4);
        }
        int[] none = {-1, 40, 99, 102};
        for (int what : none) {
            Due.is("what " + what, f.cross(0, what), -1);
        }
        f.take(0);
        Due.is("can't be, place 39", f.cross(0, 39), -2);
        Due.is("can't be, what 40", f.cross(0, 40), -1);
    }

    /**
     * As many rows as forty stones can have: thirteen layers, one of four stones and all others of three; from each
     * one steps to all of the next, and over none.
     */
    private static void manyRows() {
        SteppingStones f = new SteppingStones();
        f.person(0, 5);
        int[] lowest = {6, 7, 8, 9, 9, 9, 10, 11, 12, 13, 13};
        int told = lay(f, 0, new int[][] {{0, 4}, {0, 5}, {1, 5}});
        for (int layer = 1; layer <= lowest.length; layer++) {
            for (int k = 0; k < (layer == 5 ? 4 : 3); k++) {
                told = lay(f, told, new int[][] {{3 * layer, lowest[layer - 1] + k}});
            }
        }
        told = lay(f, told, new int[][] {{36, 16}, {36, 17}, {35, 16}});
        Due.is("all are told", told, 40);
        Due.is("steps", f.cross(0, 100), 14);
        Due.is("rows", f.cross(0, 101), 4 * 531441);
        Due.is("the first place", f.cross(0, 0), 0);
        Due.is("the last place", f.cross(0, 12), 37);
        Due.is("none behind it", f.cross(0, 13), -4);
        f.under(37, true);
        Due.is("a third less", f.cross(0, 101), 4 * 531441 / 3 * 2);
    }

    private static int lay(SteppingStones f, int from, int[][] places) {
        int told = from;
        for (int[] place : places) {
            told += f.stone(told, place[0], place[1], 0) ? 1 : 0;
        }
        return told;
    }

    /** SLIPPERY 0 to 9 each; the least in all, then the fewest steps. */
    private static void driestBounds() {
        SteppingStones f = new SteppingStones();
        f.person(0, 11);
        f.stone(0, 0, 10, 9);
        Due.is("9 of one", f.driest(0, 0), 9);
        Due.is("in two steps", f.driest(0, 1), 2);
        f.stone(1, 39, 10, 8);
        Due.is("8 of another", f.driest(0, 0), 8);
        f.stone(2, 20, 2, 0);
        f.stone(3, 20, 12, 0);
        Due.is("0 of two", f.driest(0, 0), 0);
        Due.is("in three steps", f.driest(0, 1), 3);
        f.stone(4, 30, 10, 0);
        Due.is("0 of one", f.driest(0, 0), 0);
        Due.is("the fewest steps of like ones", f.driest(0, 1), 2);
        SteppingStones long40 = Fords.snake();
        long40.person(1, 20);
        Due.is("over one of 9", long40.driest(1, 0), 9);
        for (int i = 0; i < 40; i++) {
            long40.stone(i, long40.stoneIs(i, 0), long40.stoneIs(i, 1), 0);
        }
        Due.is("0 over forty", long40.driest(0, 0), 0);
        Due.is("in 41 steps", long40.driest(0, 1), 41);
    }

    private static void leastStride() {
        SteppingStones f = Fords.snake();
        Due.is("1", f.leastStride(), 1);
        for (int i = 0; i < 40; i++) {
            f.take(i);
        }
        Due.is("21: from bank to bank", f.leastStride(), 21);
        f.stone(0, 0, 20, 0);
        Due.is("20", f.leastStride(), 20);
        f.stone(1, 39, 1, 0);
        Due.is("20 still: 38 apart", f.leastStride(), 20);
        f.stone(1, 0, 1, 0);
        Due.is("19", f.leastStride(), 19);
    }

    private static void howFar() {
        SteppingStones f = new SteppingStones();
        f.person(0, 1);
        Due.is("nowhere", f.howFar(0), 0);
        for (int y = 1; y <= 20; y++) {
            f.stone(y, 39, y, 0);
            Due.is("to " + y, f.howFar(0), y == 20 ? 21 : y);
        }
        f.under(20, true);
        Due.is("19", f.howFar(0), 19);
        f.under(1, true);
        Due.is("nowhere again", f.howFar(0), 0);
        f.person(0, 20);
        f.take(20);
        Due.is("20 by none", f.howFar(0), 21);
        SteppingStones aside = ford(10, new int[] {0, 9}, new int[] {5, 3});
        Due.is("the greatest, not the last", aside.howFar(0), 9);
    }

    private static void hold() {
        for (int stride = 1; stride <= 30; stride++) {
            SteppingStones f = ford(stride, new int[] {0, 10});
            Due.is("hold by " + stride, f.hold(0), stride >= 21 ? -2 : stride >= 11 ? 1 : 0);
        }
        SteppingStones f = Fords.along();
        for (int gone = 0; gone < 40; gone++) {
            Due.is("so many are dry", f.hold(4), 40 - gone);
            f.under(gone, true);
        }
        Due.is("none is dry", f.hold(4), 0);
        for (int first = 0; first < 40; first++) {
            SteppingStones row = ford(7);
            row.stone(first, 0, 7, 0);
            row.stone((first + 1) % 40, 0, 14, 0);
            Due.is("a row from " + first, row.hold(0), 1);
            row.stone((first + 2) % 40, 39, 7, 0);
            row.stone((first + 3) % 40, 39, 14, 0);
            Due.is("two rows from " + first, row.hold(0), 2);
        }
        Due.is("21 can't be held, of none dry", f.hold(5), -2);
    }

    /** The lowest Y, then X: from (0, 1) to (39, 20). */
    private static void oneMore() {
        for (int stride = 1; stride <= 30; stride++) {
            SteppingStones f = ford(stride);
            Due.is("nothing told, Y by " + stride, f.oneMore(0, 1), stride >= 21 ? -3 : stride >= 11 ? 21 - stride : -2);
            Due.is("nothing told, X by " + stride, f.oneMore(0, 0), stride >= 21 ? -3 : stride >= 11 ? 0 : -2);
        }
        SteppingStones low = ford(20);
        for (int i = 0; i < 39; i++) {
            low.stone(i, i, 1, 0);
            low.under(i, true);
        }
        Due.is("the last of a row of taken places, X", low.oneMore(0, 0), 39);
        Due.is("the last of a row of taken places, Y", low.oneMore(0, 1), 1);
        low.stone(39, 39, 1, 0);
        low.under(39, true);
        Due.is("the next row, X", low.oneMore(0, 0), 0);
        Due.is("the next row, Y", low.oneMore(0, 1), 2);
        SteppingStones last = new SteppingStones();
        last.person(0, 1);
        for (int y = 1; y < 20; y++) {
            last.stone(y, 39, y, 0);
        }
        Due.is("at the far end, X", last.oneMore(0, 0), 39);
        Due.is("at the far end, Y", last.oneMore(0, 1), 20);
        last.under(1, true);
        Due.is("two are wanting", last.oneMore(0, 0), -2);
        last.stone(20, 39, 20, 0);
        Due.is("where one under lies, none can be laid", last.oneMore(0, 0), -2);
        last.take(1);
        Due.is("where none lies, X", last.oneMore(0, 0), 39);
        Due.is("where none lies, Y", last.oneMore(0, 1), 1);
    }

    private static void oneMoreWhenAllAreTold() {
        SteppingStones f = Fords.along();
        Due.is("along, by 1", f.oneMore(0, 0), -2);
        Due.is("along, by 5", f.oneMore(1, 0), -2);
        Due.is("along, by 10, X", f.oneMore(2, 0), 0);
        Due.is("along, by 10, Y", f.oneMore(2, 1), 11);
        Due.is("along, by 11", f.oneMore(3, 0), -3);
        SteppingStones snake = Fords.snake();
        snake.stone(20, 39, 20, 0);
        Due.is("the gap in the snake, X", snake.oneMore(0, 0), 11);
        Due.is("the gap in the snake, Y", snake.oneMore(0, 1), 10);
    }

    private static void islands() {
        SteppingStones f = new SteppingStones();
        for (int i = 0; i < 40; i++) {
            f.stone(i, i % 20 * 2, i < 20 ? 1 : 20, 0);
        }
        Due.is("forty by 1", f.islands(1, 100), 40);
        Due.is("one each by 1", f.islands(1, 39), 1);
        Due.is("two by 2", f.islands(2, 100), 2);
        Due.is("twenty each by 2", f.islands(2, 39), 20);
        Due.is("two by 18", f.islands(18, 100), 2);
        Due.is("one by 19", f.islands(19, 100), 1);
        Due.is("one by 30", f.islands(30, 0), 40);
        Due.is("stride 0", f.islands(0, 0), -1);
        Due.is("stride 31", f.islands(31, 0), -1);
        Due.is("what -1", f.islands(30, -1), -1);
        Due.is("what 40", f.islands(30, 40), -1);
        Due.is("what 99", f.islands(30, 99), -1);
        Due.is("what 101", f.islands(30, 101), -1);
        f.take(39);
        Due.is("one taken out", f.islands(30, 39), -1);
        Due.is("one fewer", f.islands(30, 0), 39);
        f.under(38, true);
        Due.is("one under", f.islands(30, 38), 0);
        Due.is("two fewer", f.islands(30, 0), 38);
    }

    private static void key() {
        SteppingStones f = Fords.snake();
        for (int i = 0; i < 40; i++) {
            SteppingStones one = ford(11);
            one.take(0);
            one.stone(i, 39, 10, 0);
            Due.is("one key: " + i, one.key(0, 1), i);
        }
        f.person(0, 2);
        Due.is("by 2 stones can be left out", f.key(0, 0) < 40, true);
        f.person(0, 20);
        Due.is("by 20 none is a key", f.key(0, 0), 0);
        Due.is("none is the lowest", f.key(0, 1), -2);
        f.person(0, 21);
        Due.is("by 21 none is", f.key(0, 0), 0);
        Due.is("none went under by asking", f.count(2), 0);
    }

    private static void meet() {
        SteppingStones f = ford(10, new int[] {0, 10});
        f.person(1, 11);
        Due.is("10 from the near bank, 11 from the far one", f.meet(0, 1, 0), 1);
        Due.is("on 0", f.meet(0, 1, 1), 0);
        Due.is("not the other way", f.meet(1, 0, 0), -2);
        Due.is("nor there", f.meet(1, 0, 1), -2);
        Due.is("one with itself", f.meet(1, 1, 0), 1);
        f.under(0, true);
        Due.is("not on one under", f.meet(1, 1, 1), -2);
        Due.is("person 7", f.meet(7, 1, 0), -1);
        f.person(7, 30);
        Due.is("person 7 is told", f.meet(7, 7, 0), -2);
    }

    private static void market() {
        SteppingStones f = new SteppingStones();
        int due = 0;
        for (int p = 0; p < 8; p++) {
            f.person(p, 21);
            due |= 1 << p;
            Due.is("so many can cross", f.market(), due);
        }
        for (int p = 0; p < 8; p++) {
            f.person(p, 20);
            due &= ~(1 << p);
            Due.is("so many still can", f.market(), due);
        }
    }

    private static int walk(SteppingStones f, int p, int x, String text, int what) {
        return Due.walk(f, p, x, text, what);
    }

    /** From an X of 0 to 39, at Y 0. */
    private static void walkFrom() {
        SteppingStones f = Fords.people();
        for (int x = 0; x <= 39; x += 39) {
            Due.is("standing at " + x, walk(f, 0, x, "u0", 2), x);
            Due.is("a good step", walk(f, 0, x, "u0", 0), 1);
            Due.is("at Y 0", walk(f, 0, x, "u0", 1), 0);
            Due.is("not across", walk(f, 0, x, "u0", 3), 0);
        }
        Due.is("from -1", walk(f, 0, -1, "u0", 0), -1);
        Due.is("the tape stays", f.count(5), 20);
        Due.is("from 40", f.walk(0, 40, 2, 0), -1);
        Due.is("what -1", f.walk(0, 0, 2, -1), -1);
        Due.is("what 4", f.walk(0, 0, 2, 4), -1);
        Due.is("what 3", f.walk(0, 0, 2, 3), 0);
        Due.is("upstream to 39", walk(f, 0, 38, "u", 2), 39);
        Due.is("not to 40", walk(f, 0, 39, "u", 0), 0);
        Due.is("one stands where one was", walk(f, 0, 39, "u", 2), 39);
        Due.is("down to 0", walk(f, 0, 1, "d", 2), 0);
        Due.is("not to -1", walk(f, 0, 0, "d", 0), 0);
        Due.is("nor there", walk(f, 0, 0, "d", 2), 0);
        Due.is("30 along", walk(f, 7, 9, "u30", 2), 39);
        Due.is("31 is too far", walk(f, 7, 8, "u31", 0), 0);
    }

    /** Y 0 or less is the near bank, 21 or more the far one, at an X of 0 to 39. */
    private static void walkBanks() {
        SteppingStones f = Fords.people();
        f.stone(0, 39, 20, 0);
        f.stone(1, 0, 1, 0);
        Due.is("b30 from the bank", walk(f, 7, 5, "b30", 0), 1);
        Due.is("Y is 0", walk(f, 7, 5, "b30", 1), 0);
        Due.is("b31 is too far", walk(f, 7, 5, "b31", 0), 0);
        Due.is("from Y 1 to 0", walk(f, 0, 0, "o,b", 0), 2);
        Due.is("from Y 1 to less", walk(f, 7, 0, "o,b9,o", 1), 1);
        Due.is("from Y 1 off the bank's X", walk(f, 7, 0, "o,b9d", 0), 1);
        Due.is("o21", walk(f, 5, 0, "o21", 1), 21);
        Due.is("o22 by 21", walk(f, 5, 0, "o22", 0), 0);
        Due.is("o30: Y is 21", walk(f, 7, 0, "o30", 1), 21);
        Due.is("o30: across", walk(f, 7, 0, "o30", 3), 1);
        Due.is("o31", walk(f, 7, 0, "o31", 3), 0);
        Due.is("o20 into the water", walk(f, 7, 0, "o20", 0), 0);
        Due.is("o20 to the stone", walk(f, 7, 39, "o20", 1), 20);
        Due.is("o20 is not across", walk(f, 7, 39, "o20", 3), 0);
        Due.is("from it to the bank", walk(f, 7, 39, "o20,o", 3), 1);
        Due.is("from it off the bank's X", walk(f, 7, 39, "o20,ou", 0), 1);
        Due.is("one stands on it then", walk(f, 7, 39, "o20,ou", 1), 20);
        Due.is("to X 0 of the far bank", walk(f, 7, 9, "o21d9", 2), 0);
        Due.is("not to X -1 of it", walk(f, 7, 9, "o21d10", 0), 0);
        Due.is("to X 39 of it", walk(f, 7, 30, "o21u9", 2), 39);
        Due.is("not to X 40 of it", walk(f, 7, 30, "o21u10", 0), 0);
    }

    private static void walkStride() {
        SteppingStones f = new SteppingStones();
        f.person(0, 5);
        f.stone(0, 13, 4, 0);
        f.stone(1, 11, 5, 0);
        Due.is("25 by 5", walk(f, 0, 10, "u3o4", 0), 1);
        Due.is("26 by 5", walk(f, 0, 10, "uo5", 0), 0);
        f.person(0, 6);
        Due.is("26 by 6", walk(f, 0, 10, "uo5", 0), 1);
        Due.is("what it goes in all", walk(f, 0, 10, "u9o9d8b4", 0), 1);
        f.under(1, true);
        Due.is("to one under", walk(f, 0, 10, "uo5", 0), 0);
        f.under(1, false);
        Due.is("u0 on a stone", walk(f, 0, 10, "uo5,u0,u0", 0), 3);
        Due.is("99 and back", walk(f, 0, 10, "uo5,u99d99", 0), 2);
        f.person(1, 1);
        Due.is("1 by 1", walk(f, 1, 10, "u", 0), 1);
        Due.is("2 by 1", walk(f, 1, 10, "uo", 0), 0);
        Due.is("uu by 1", walk(f, 1, 10, "uu", 0), 0);
    }

    /** The WALK ends at the far bank, or at the first STEP that is not good. */
    private static void walkEnds() {
        SteppingStones f = Fords.along();
        Due.is("sixty good steps", walk(f, 0, 0, "((u,d)x5)x6", 0), 60);
        Due.is("on 60, back at X", walk(f, 0, 0, "((u,d)x5)x6", 2), 0);
        Due.is("thirty-nine, then off", walk(f, 0, 0, "((u)x9)x6", 0), 39);
        Due.is("X 39 then", walk(f, 0, 0, "((u)x9)x6", 2), 39);
        Due.is("the first is bad", walk(f, 0, 0, "o,u,u", 0), 0);
        Due.is("good ones behind a bad one do not count", walk(f, 0, 0, "u,o,u,u", 0), 1);
        Due.is("across in two, then the end", walk(f, 3, 0, "o10,o11,u99,u99", 0), 2);
        Due.is("across", walk(f, 3, 0, "o10,o11,u99,u99", 3), 1);
        Due.is("nobody walks on from there", walk(f, 3, 0, "o10,o11,b11", 1), 21);
        Due.is("over forty stones", walk(f, 2, 0, "o10,((u)x9)x4,(u)x3", 0), 40);
        Due.is("and off behind the last", walk(f, 2, 0, "o10,((u)x9)x4,(u)x4", 0), 40);
        Due.is("a fault at the end: no walk at all", walk(f, 3, 0, "o10,o11,", 0), -1008);
        Due.is("nothing told", walk(Fords.people(), 4, 0, "o20", 0), 0);
        Due.is("nothing told, 21", walk(Fords.people(), 5, 0, "o21", 3), 1);
    }
}
