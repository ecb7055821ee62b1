/** Promises 1 to 6, 11, 12 and 29 to 33: what is told, the tape, what is kept. */
public final class StonesTest {
    public static void main(String[] args) {
        newObject();
        stone();
        take();
        under();
        person();
        feed();
        stoneIs();
        at();
        seed();
        keepAndUndo();
        check();
        count();
        Due.end();
    }

    private static void newObject() {
        SteppingStones f = new SteppingStones();
        for (int what = 0; what <= 5; what++) {
            Due.is("new count(" + what + ")", f.count(what), 0);
        }
        Due.is("new count(6)", f.count(6), 1);
        for (int p = 0; p < 8; p++) {
            Due.is("new count(1" + p + ")", f.count(10 + p), -1);
        }
        Due.is("new at", f.at(0, 1), -2);
        Due.is("new market", f.market(), 0);
        Due.is("new undo", f.undo(), false);
        Due.is("new leastStride", f.leastStride(), 21);
    }

    private static void stone() {
        SteppingStones f = new SteppingStones();
        Due.is("stone 0", f.stone(0, 0, 1, 0), true);
        Due.is("stone 39", f.stone(39, 39, 20, 9), true);
        int[][] wrong = {{-1, 5, 5, 0}, {40, 5, 5, 0}, {1, -1, 5, 0}, {1, 40, 5, 0}, {1, 5, 0, 0}, {1, 5, 21, 0},
            {1, 5, 5, -1}, {1, 5, 5, 10}, {Integer.MIN_VALUE, 5, 5, 0}, {1, Integer.MAX_VALUE, 5, 0}};
        for (int[] w : wrong) {
            Due.is("wrong stone", f.stone(w[0], w[1], w[2], w[3]), false);
        }
        Due.is("count after wrong ones", f.count(1), 2);
        Due.is("taken place", f.stone(1, 0, 1, 0), false);
        Due.is("not told by a taken place", f.stoneIs(1, 0), -1);
        Due.is("the same stone again", f.stone(0, 0, 1, 7), true);
        Due.is("slippery now", f.stoneIs(0, 2), 7);
        Due.is("under", f.under(0, true), true);
        Due.is("a taken place by one under", f.stone(1, 0, 1, 0), false);
        Due.is("moved by hand", f.stone(0, 3, 4, 2), true);
        Due.is("dry again", f.stoneIs(0, 3), 0);
        Due.is("the old place is free", f.at(0, 1), -2);
        Due.is("the new one is not", f.at(3, 4), 0);
    }

    private static void take() {
        SteppingStones f = new SteppingStones();
        f.stone(5, 10, 10, 0);
        Due.is("take -1", f.take(-1), false);
        Due.is("take 40", f.take(40), false);
        Due.is("take one that is not told", f.take(4), false);
        Due.is("take", f.take(5), true);
        Due.is("take again", f.take(5), false);
        Due.is("gone", f.at(10, 10), -2);
        Due.is("none left", f.count(1), 0);
        Due.is("its place is free", f.stone(6, 10, 10, 0), true);
    }

    private static void under() {
        SteppingStones f = new SteppingStones();
        f.stone(5, 10, 10, 0);
        Due.is("under -1", f.under(-1, true), false);
        Due.is("under 40", f.under(40, true), false);
        Due.is("under one not told", f.under(4, true), false);
        Due.is("under", f.under(5, true), true);
        Due.is("is under", f.stoneIs(5, 3), 1);
        Due.is("counted", f.count(2), 1);
        f.take(5);
        Due.is("one taken out is not counted", f.count(2), 0);
        f.stone(5, 10, 10, 0);
        f.under(5, true);
        Due.is("dry", f.under(5, false), true);
        Due.is("is dry", f.stoneIs(5, 3), 0);
    }

    private static void person() {
        SteppingStones f = new SteppingStones();
        Due.is("p -1", f.person(-1, 5), false);
        Due.is("p 8", f.person(8, 5), false);
        Due.is("stride 0", f.person(0, 0), false);
        Due.is("stride 31", f.person(0, 31), false);
        Due.is("p 0", f.person(0, 1), true);
        Due.is("p 7", f.person(7, 30), true);
        Due.is("bits", f.count(3), 129);
        Due.is("stride of 7", f.count(17), 30);
        Due.is("again", f.person(7, 4), true);
        Due.is("stride of 7 then", f.count(17), 4);
        Due.is("refused again", f.person(7, 31), false);
        Due.is("stride of 7 as it was", f.count(17), 4);
    }

    private static void feed() {
        SteppingStones f = new SteppingStones();
        for (int k = 1; k <= 13; k++) {
            Due.is("feed " + k, f.feed(0, 0, 0, 0, 0), 20 * k);
        }
        Due.is("a 14th", f.feed(0, 0, 0, 0, 0), -1);
        Due.is("the tape stays", f.count(5), 260);
        Due.is("check empties", f.check(0), -1);
        Due.is("empty", f.count(5), 0);
        for (int i = 0; i < 20; i++) {
            f.stone(i, 19 - i, 5, 0);
        }
        f.feed(0x13121110, 0x0F0E0D0C, 0x0B0A0908, 0x07060504, 0x03020100);
        Due.is("the highest byte first", f.check(20), -1);
    }

    private static void stoneIs() {
        SteppingStones f = new SteppingStones();
        f.stone(3, 10, 10, 6);
        f.stone(4, 12, 10, 0);
        f.stone(5, 11, 11, 0);
        f.stone(6, 12, 11, 0);
        f.stone(7, 10, 8, 0);
        f.under(7, true);
        f.stone(8, 10, 13, 0);
        int[] due = {10, 10, 6, 0, 3};
        for (int what = 0; what < 5; what++) {
            Due.is("stoneIs(3, " + what + ")", f.stoneIs(3, what), due[what]);
        }
        Due.is("under", f.stoneIs(7, 3), 1);
        Due.is("what -1", f.stoneIs(3, -1), -1);
        Due.is("what 5", f.stoneIs(3, 5), -1);
        Due.is("not told", f.stoneIs(0, 0), -1);
        Due.is("no such stone", f.stoneIs(40, 0), -1);
        Due.is("no such stone below", f.stoneIs(-1, 0), -1);
        f.take(4);
        Due.is("one less is close", f.stoneIs(3, 4), 2);
    }

    private static void at() {
        SteppingStones f = new SteppingStones();
        f.stone(3, 39, 20, 0);
        f.stone(4, 0, 1, 0);
        Due.is("at 39 20", f.at(39, 20), 3);
        Due.is("at 0 1", f.at(0, 1), 4);
        Due.is("at 1 1", f.at(1, 1), -2);
        Due.is("at -1 1", f.at(-1, 1), -1);
        Due.is("at 40 1", f.at(40, 1), -1);
        Due.is("at 0 0", f.at(0, 0), -1);
        Due.is("at 0 21", f.at(0, 21), -1);
    }

    private static void seed() {
        SteppingStones f = new SteppingStones();
        Due.is("seed -1", f.seed(-1), false);
        Due.is("seed 65536", f.seed(65536), false);
        Due.is("x stays", f.count(6), 1);
        Due.is("seed 0", f.seed(0), true);
        f.stone(0, 0, 1, 0);
        f.nights(1);
        Due.is("x behind 0", f.count(6), 13849);
        Due.is("seed 65535", f.seed(65535), true);
        Due.is("x is the seed", f.count(6), 65535);
        f.nights(1);
        Due.is("x behind 65535", f.count(6), (25173L * 65535 + 13849) % 65536);
    }

    private static void keepAndUndo() {
        SteppingStones f = new SteppingStones();
        Due.is("nothing kept", f.undo(), false);
        f.person(0, 5);
        f.stone(0, 5, 5, 3);
        f.stone(1, 9, 5, 0);
        f.under(1, true);
        f.nights(3);
        f.under(1, true);
        f.seed(77);
        Due.is("keep", f.keep(), 3);
        Due.law(f, "u1(i=i)");
        f.nights(2);
        f.stone(0, 20, 5, 9);
        f.take(1);
        f.stone(2, 30, 5, 9);
        f.person(1, 6);
        f.feed(0, 0, 0, 0, 0);
        Due.is("undo", f.undo(), true);
        Due.is("x of 0", f.stoneIs(0, 0), 5);
        Due.is("slippery of 0", f.stoneIs(0, 2), 3);
        Due.is("1 is told again", f.stoneIs(1, 0), 9);
        Due.is("and under", f.stoneIs(1, 3), 1);
        Due.is("2 is not", f.stoneIs(2, 0), -1);
        Due.is("the night", f.count(0), 3);
        Due.is("X", f.count(6), 77);
        Due.is("people stay", f.count(3), 3);
        Due.is("the law stays", f.count(4), 1);
        Due.is("the tape stays", f.count(5), 20);
        f.take(0);
        Due.is("undo again", f.undo(), true);
        Due.is("0 once more", f.stoneIs(0, 0), 5);
        f.take(0);
        Due.is("keep anew", f.keep(), 3);
        f.stone(0, 1, 1, 1);
        f.undo();
        Due.is("kept last", f.stoneIs(0, 0), -1);
    }

    private static void check() {
        SteppingStones f = new SteppingStones();
        f.stone(1, 7, 3, 0);
        f.stone(3, 39, 3, 0);
        Due.is("check -1", f.check(-1), -2);
        Due.is("check 1 of none", f.check(1), -2);
        Due.bytes(f, 255, 7, 255, 39);
        Due.is("check 41", f.check(41), -2);
        Due.is("check 21 of 20", f.check(21), -2);
        Due.is("the tape stays", f.count(5), 20);
        Due.is("right", f.check(4), -1);
        Due.is("empty then", f.count(5), 0);
        Due.bytes(f, 255, 7, 0, 39);
        Due.is("one not told", f.check(4), 2);
        Due.is("empty then, too", f.count(5), 0);
        Due.bytes(f, 255, 7, 255, 38);
        Due.is("another X", f.check(4), 3);
        Due.bytes(f, 255, 7, 255, 38);
        Due.is("fewer", f.check(3), -1);
        Due.bytes(f, 0);
        Due.is("none", f.check(0), -1);
        int[] all = new int[40];
        for (int i = 0; i < 40; i++) {
            all[i] = i == 1 ? 7 : i == 3 ? 39 : 255;
        }
        Due.bytes(f, all);
        Due.is("all", f.check(40), -1);
        all[39] = 254;
        Due.bytes(f, all);
        Due.is("the last", f.check(40), 39);
    }

    private static void count() {
        SteppingStones f = new SteppingStones();
        f.stone(0, 1, 1, 0);
        f.stone(9, 2, 1, 0);
        f.under(9, true);
        f.person(3, 12);
        Due.law(f, "x(e=1);u0(i=i)");
        f.nights(7);
        f.feed(0, 0, 0, 0, 0);
        Due.is("night", f.count(0), 7);
        Due.is("stones", f.count(1), 2);
        Due.is("under", f.count(2), 1);
        Due.is("people", f.count(3), 8);
        Due.is("rules", f.count(4), 2);
        Due.is("tape", f.count(5), 20);
        Due.is("stride", f.count(13), 12);
        int[] others = {-1, 7, 8, 9, 10, 12, 14, 18, 21, Integer.MIN_VALUE, Integer.MAX_VALUE};
        for (int what : others) {
            Due.is("count(" + what + ")", f.count(what), -1);
        }
    }
}
