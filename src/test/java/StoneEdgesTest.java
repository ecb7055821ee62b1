/** Promises 1 to 6, 11, 12 and 29 to 33 at their edges: least, greatest, one beyond; nothing told, all told. */
public final class StoneEdgesTest {
    public static void main(String[] args) {
        newObject();
        stoneBounds();
        stoneWhenAllAreTold();
        take();
        under();
        person();
        stoneIs();
        close();
        at();
        seed();
        keepAndUndo();
        undoOfNothingTold();
        check();
        count();
        Due.end();
    }

    /** No STONES, PEOPLE, LAW; THE SEED 1; THE NIGHT 0 at first; nothing on the tape, nothing kept. */
    private static void newObject() {
        SteppingStones f = new SteppingStones();
        for (int i = 0; i < 40; i++) {
            Due.is("stone " + i + " of a new ford", f.stoneIs(i, 0), -1);
        }
        for (int x = 0; x < 40; x += 13) {
            for (int y = 1; y <= 20; y++) {
                Due.is("at " + x + " " + y + " of a new ford", f.at(x, y), -2);
            }
        }
        for (int p = 0; p < 8; p++) {
            Due.is("person " + p + " of a new ford", f.howFar(p), -1);
            Due.is("stride " + p + " of a new ford", f.count(10 + p), -1);
        }
        int[] due = {0, 0, 0, 0, 0, 0, 1};
        for (int what = 0; what < due.length; what++) {
            Due.is("count " + what + " of a new ford", f.count(what), due[what]);
        }
        Due.is("undo of a new ford", f.undo(), false);
        SteppingStones one = new SteppingStones();
        one.stone(0, 20, 10, 0);
        one.under(0, true);
        Due.is("no law moves it", one.nights(1), 0);
        Due.is("no x holds it under", one.count(2), 0);
        Due.is("one draw from the seed 1", one.count(6), 25173 + 13849);
    }

    private static void stoneBounds() {
        int[][] within = {{0, 0, 1, 0}, {39, 39, 20, 9}, {0, 39, 1, 9}, {39, 0, 20, 0}};
        for (int[] w : within) {
            SteppingStones f = new SteppingStones();
            Due.is("stone at the bound", f.stone(w[0], w[1], w[2], w[3]), true);
            for (int what = 0; what < 3; what++) {
                Due.is("what " + what + " of it", f.stoneIs(w[0], what), w[1 + what]);
            }
            Due.is("it is dry", f.stoneIs(w[0], 3), 0);
        }
        int[][] beyond = {{-1, 0, 1, 0}, {0, -1, 1, 0}, {0, 0, 0, 0}, {0, 0, 1, -1}, {40, 39, 20, 9}, {39, 40, 20, 9},
            {39, 39, 21, 9}, {39, 39, 20, 10}};
        SteppingStones f = new SteppingStones();
        for (int[] w : beyond) {
            Due.is("stone beyond the bound", f.stone(w[0], w[1], w[2], w[3]), false);
            Due.is("none is told by it", f.count(1), 0);
        }
    }

    private static void stoneWhenAllAreTold() {
        SteppingStones f = Fords.along();
        Due.is("all are told", f.count(1), 40);
        for (int i = 0; i < 40; i++) {
            int other = (i + 1) % 40;
            Due.is("another one is there", f.stone(i, other, 10, 0), false);
            Due.is("it stays", f.at(i, 10), i);
            Due.is("in its own place again", f.stone(i, i, 10, i % 10), true);
            Due.is("as slippery as told then", f.stoneIs(i, 2), i % 10);
            Due.is("to a free place", f.stone(i, i, 20, 0), true);
            Due.is("from which it has gone", f.at(i, 10), -2);
            Due.is("and back", f.stone(i, i, 10, 0), true);
        }
        Due.is("still forty", f.count(1), 40);
        Due.is("a forty-first", f.stone(40, 0, 1, 0), false);
        f.under(39, true);
        Due.is("another one is there, under", f.stone(0, 39, 10, 0), false);
        f.take(39);
        Due.is("it is taken out", f.stone(0, 39, 10, 0), true);
        f.under(0, true);
        Due.is("told again in its own place", f.stone(0, 39, 10, 0), true);
        Due.is("it is dry then", f.stoneIs(0, 3), 0);
    }

    private static void take() {
        SteppingStones f = Fords.along();
        for (int i = 0; i < 40; i++) {
            Due.is("take " + i, f.take(i), true);
            Due.is("told then", f.count(1), 39 - i);
            Due.is("take " + i + " again", f.take(i), false);
        }
        Due.is("nothing is told", f.count(1), 0);
        Due.is("one more", f.take(0), false);
        SteppingStones bare = new SteppingStones();
        for (int i = -1; i <= 40; i++) {
            Due.is("take " + i + " of none", bare.take(i), false);
        }
    }

    private static void under() {
        SteppingStones f = Fords.along();
        for (int i = 0; i < 40; i++) {
            Due.is("under " + i, f.under(i, true), true);
            Due.is("so many are under", f.count(2), i + 1);
            Due.is("under " + i + " again", f.under(i, true), true);
            Due.is("as many still", f.count(2), i + 1);
        }
        for (int i = 39; i >= 0; i--) {
            Due.is("dry " + i, f.under(i, false), true);
            Due.is("dry " + i + " again", f.under(i, false), true);
            Due.is("so many are left under", f.count(2), i);
        }
        SteppingStones bare = new SteppingStones();
        for (int i = -1; i <= 40; i++) {
            Due.is("under " + i + " of none", bare.under(i, true), false);
            Due.is("dry " + i + " of none", bare.under(i, false), false);
        }
        bare.stone(0, 0, 1, 0);
        Due.is("what was refused does not come later", bare.stoneIs(0, 3), 0);
    }

    private static void person() {
        SteppingStones f = new SteppingStones();
        int bits = 0;
        for (int p = 0; p < 8; p++) {
            Due.is("person " + p + " by 1", f.person(p, 1), true);
            Due.is("stride 1", f.count(10 + p), 1);
            Due.is("person " + p + " by 30", f.person(p, 30), true);
            Due.is("stride 30", f.count(10 + p), 30);
            Due.is("by 0", f.person(p, 0), false);
            Due.is("by 31", f.person(p, 31), false);
            Due.is("stride 30 still", f.count(10 + p), 30);
            bits |= 1 << p;
            Due.is("bits", f.count(3), bits);
        }
        Due.is("person -1", f.person(-1, 1), false);
        Due.is("person 8", f.person(8, 30), false);
        Due.is("all eight", f.count(3), 255);
    }

    private static void stoneIs() {
        SteppingStones f = Fords.along();
        for (int i = 0; i < 40; i++) {
            int[] due = {-1, i, 10, 9, 0, Math.min(i, 2) + Math.min(39 - i, 2), -1};
            for (int what = -1; what <= 5; what++) {
                Due.is("stoneIs " + i + " " + what, f.stoneIs(i, what), due[what + 1]);
            }
        }
        Due.is("stone -1", f.stoneIs(-1, 0), -1);
        Due.is("stone 40", f.stoneIs(40, 0), -1);
        Fords.allUnder(f);
        Due.is("under", f.stoneIs(39, 3), 1);
        Due.is("those under are close, too", f.stoneIs(39, 4), 2);
        f.take(39);
        for (int what = 0; what < 5; what++) {
            Due.is("of one taken out, what " + what, f.stoneIs(39, what), -1);
        }
        Due.is("one taken out is close to none", f.stoneIs(38, 4), 2);
    }

    /** No farther than 2: squares of 4 are, of 5 are not; there are twelve such places. */
    private static void close() {
        SteppingStones f = new SteppingStones();
        f.stone(39, 20, 10, 0);
        int i = 0;
        int close = 0;
        for (int x = 17; x <= 23; x++) {
            for (int y = 7; y <= 13; y++) {
                int squares = (x - 20) * (x - 20) + (y - 10) * (y - 10);
                if (squares > 0 && squares <= 9) {
                    Due.is("laid", f.stone(i, x, y, 0), true);
                    i++;
                    close += squares <= 4 ? 1 : 0;
                    Due.is("close by " + x + " " + y, f.stoneIs(39, 4), close);
                }
            }
        }
        Due.is("twelve at most", f.stoneIs(39, 4), 12);
    }

    private static void at() {
        SteppingStones f = Fords.twoRows();
        for (int y = -1; y <= 22; y++) {
            boolean isIn = y >= 1 && y <= 20;
            Due.is("at -1 " + y, f.at(-1, y), -1);
            Due.is("at 0 " + y, f.at(0, y), isIn ? y - 1 : -1);
            Due.is("at 1 " + y, f.at(1, y), isIn ? -2 : -1);
            Due.is("at 38 " + y, f.at(38, y), isIn ? -2 : -1);
            Due.is("at 39 " + y, f.at(39, y), isIn ? 19 + y : -1);
            Due.is("at 40 " + y, f.at(40, y), -1);
        }
        Fords.allUnder(f);
        Due.is("one under is there, too", f.at(0, 1), 0);
        f.take(0);
        Due.is("one taken out is not", f.at(0, 1), -2);
    }

    private static void seed() {
        int[] within = {0, 1, 65534, 65535};
        for (int x : within) {
            SteppingStones f = new SteppingStones();
            Due.is("seed " + x, f.seed(x), true);
            Due.is("X is " + x, f.count(6), x);
            f.stone(0, 0, 1, 0);
            f.nights(1);
            Due.is("X drawn from " + x, f.count(6), (25173L * x + 13849) % 65536);
            Due.is("seed -1", f.seed(-1), false);
            Due.is("seed 65536", f.seed(65536), false);
            Due.is("X stays", f.count(6), (25173L * x + 13849) % 65536);
        }
    }

    /** STONES, THE NIGHT and X come back; PEOPLE, THE LAW and the tape stay as they are. */
    private static void keepAndUndo() {
        SteppingStones f = Fords.along();
        Due.is("kept in night 0", f.keep(), 0);
        Fords.toNight(f, 9999);
        Due.is("night 9999", f.count(0), 9999);
        for (int i = 0; i < 40; i++) {
            f.take(i);
        }
        f.seed(65535);
        Fords.tape(f, 13, 1);
        f.person(0, 30);
        Due.is("undone", f.undo(), true);
        Due.is("night 0 again", f.count(0), 0);
        Due.is("all are told again", f.count(1), 40);
        Due.is("X again", f.count(6), 1);
        Due.is("the tape stays", f.count(5), 260);
        Due.is("people stay", f.count(10), 30);
        for (int i = 0; i < 40; i++) {
            Due.is("stone " + i + " again", f.at(i, 10), i);
        }
        SteppingStones late = Fords.along();
        Fords.toNight(late, 9999);
        Due.is("kept in night 9999", late.keep(), 9999);
        Due.is("undone in it", late.undo(), true);
        Due.is("night 9999 still", late.count(0), 9999);
    }

    private static void undoOfNothingTold() {
        SteppingStones f = new SteppingStones();
        Due.is("nothing told is kept", f.keep(), 0);
        f.stone(0, 0, 1, 0);
        f.stone(39, 39, 20, 9);
        Due.law(f, "x(1=1)");
        f.nights(60);
        Due.is("undone", f.undo(), true);
        Due.is("nothing is told again", f.count(1), 0);
        Due.is("none is under", f.count(2), 0);
        Due.is("the law stays", f.count(4), 1);
        Due.is("undone twice", f.undo(), true);
        f.stone(5, 5, 5, 5);
        Due.is("kept anew", f.keep(), 0);
        f.take(5);
        Due.is("undone to the last kept", f.undo(), true);
        Due.is("5 is told", f.stoneIs(5, 2), 5);
        Due.is("it is dry", f.stoneIs(5, 3), 0);
    }

    private static void check() {
        SteppingStones bare = new SteppingStones();
        int[] untold = new int[40];
        java.util.Arrays.fill(untold, 255);
        for (int n = 0; n <= 40; n++) {
            Due.bytes(bare, untold);
            Due.is("nothing told, check " + n, bare.check(n), -1);
            Due.is("empty then", bare.count(5), 0);
        }
        SteppingStones f = Fords.along();
        int[] right = new int[40];
        for (int i = 0; i < 40; i++) {
            right[i] = i;
        }
        for (int n = 0; n <= 40; n++) {
            Due.bytes(f, right);
            Due.is("all told, check " + n, f.check(n), -1);
        }
        for (int i = 0; i < 40; i++) {
            int[] wrong = right.clone();
            wrong[i] = 255;
            Due.bytes(f, wrong);
            Due.is("the first that is not so", f.check(40), i);
            Due.bytes(f, wrong);
            Due.is("behind n it does not matter", f.check(i), -1);
        }
        right[39] = 0;
        right[7] = 0;
        Due.bytes(f, right);
        Due.is("the first of two", f.check(40), 7);
        Due.bytes(f, right);
        Due.is("check 41", f.check(41), -2);
        Due.is("check -1", f.check(-1), -2);
        Due.is("the tape stays", f.count(5), 40);
    }

    private static void count() {
        SteppingStones f = Fords.along();
        Fords.allUnder(f);
        Due.law(f, "x(0=1);".repeat(15) + "x(0=1)");
        Fords.tape(f, 13, 1);
        f.seed(65535);
        int[] due = {-1, 0, 40, 40, 255, 16, 260, 65535, -1, -1, -1};
        for (int what = -1; what <= 9; what++) {
            Due.is("all told, count " + what, f.count(what), due[what + 1]);
        }
        for (int p = 0; p < 8; p++) {
            Due.is("stride of " + p, f.count(10 + p), Fords.STRIDES[p]);
        }
        Due.is("count 18", f.count(18), -1);
        Fords.toNight(f, 9999);
        Due.is("the last night", f.count(0), 9999);
        Due.is("none is under then", f.count(2), 0);
    }
}
