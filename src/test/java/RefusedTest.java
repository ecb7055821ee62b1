/**
 * "A call that is refused (NONE, false) changes nothing but the tape, where it is told": each such call is made on
 * one of two fords that are alike, and both must be alike then, in what they kept, too. The same for calls that only
 * ask, and, but for the tape, for texts with a FAULT.
 */
public final class RefusedTest {
    private interface Call {
        long on(SteppingStones f);
    }

    private static final int LEAST = Integer.MIN_VALUE;
    private static final int MOST = Integer.MAX_VALUE;

    public static void main(String[] args) {
        stones();
        people();
        nights();
        ways();
        walks();
        puzzles();
        tapes();
        others();
        asking();
        faults();
        neverKept();
        calls512();
        Due.end();
    }

    /** Something of everything; stone 17 and person 3 are not told; the tape's first bytes are what check asks for. */
    private static SteppingStones rich(int feeds) {
        SteppingStones f = new SteppingStones();
        for (int p = 0; p < 8; p++) {
            if (p != 3) {
                f.person(p, 4 + 3 * p);
            }
        }
        for (int i = 0; i < 40; i++) {
            f.stone(i, i * 7 % 40, 1 + i * 3 % 20, i % 10);
        }
        f.nights(3);
        f.keep();
        f.take(17);
        f.under(5, true);
        f.under(6, true);
        Due.law(f, "u1(r>4);d2(r<2);o1(n>1);b1(g%2=1);x(e=0&r=3)");
        f.nights(2);
        f.seed(777);
        int[] row = new int[20 * feeds];
        for (int k = 0; k < row.length; k++) {
            row[k] = k >= 40 ? k : f.stoneIs(k, 0) & 255;
        }
        Due.bytes(f, row);
        return f;
    }

    private static void refusedAt(int feeds, String call, long due, Call made) {
        SteppingStones f = rich(feeds);
        Due.is(call + " with " + 20 * feeds + " bytes", made.on(f), due);
        State.same(call + " with " + 20 * feeds + " bytes", f, rich(feeds));
    }

    private static void refused(String call, long due, Call made) {
        refusedAt(0, call, due, made);
        refusedAt(2, call, due, made);
        refusedAt(13, call, due, made);
    }

    private static long of(boolean is) {
        return is ? 1 : 0;
    }

    private static void stones() {
        int[] noStones = {-1, 40, LEAST, MOST};
        for (int i : noStones) {
            refused("stone " + i, 0, f -> of(f.stone(i, 38, 20, 0)));
            refused("take " + i, 0, f -> of(f.take(i)));
            refused("under " + i, 0, f -> of(f.under(i, true)));
            refused("dry " + i, 0, f -> of(f.under(i, false)));
            refused("stoneIs " + i, -1, f -> f.stoneIs(i, 0));
        }
        refused("take one that is not told", 0, f -> of(f.take(17)));
        refused("under, one that is not told", 0, f -> of(f.under(17, true)));
        refused("dry, one that is not told", 0, f -> of(f.under(17, false)));
        int[][] noPlaces = {{-1, 1}, {40, 1}, {0, 0}, {0, 21}, {39, 21}, {LEAST, 1}, {MOST, 1}, {0, LEAST}, {0, MOST}};
        for (int[] place : noPlaces) {
            refused("stone at " + place[0] + " " + place[1], 0, f -> of(f.stone(17, place[0], place[1], 0)));
            refused("told stone at " + place[0] + " " + place[1], 0, f -> of(f.stone(0, place[0], place[1], 0)));
            refused("at " + place[0] + " " + place[1], -1, f -> f.at(place[0], place[1]));
        }
        int[] noSlippery = {-1, 10, LEAST, MOST};
        for (int s : noSlippery) {
            refused("slippery " + s, 0, f -> of(f.stone(0, f.stoneIs(0, 0), f.stoneIs(0, 1), s)));
        }
        refused("a place with a dry one", 0, f -> of(f.stone(17, f.stoneIs(39, 0), f.stoneIs(39, 1), 0)));
        refused("a place with another, for a told one", 0, f -> of(f.stone(0, f.stoneIs(39, 0), f.stoneIs(39, 1), 0)));
        refused("a place with one under", 0, f -> {
            int sunk = 0;
            while (f.stoneIs(sunk, 3) != 1 && sunk < 39) {
                sunk++;
            }
            return of(f.stone(17, f.stoneIs(sunk, 0), f.stoneIs(sunk, 1), 0));
        });
        int[] noWhats = {-1, 5, LEAST, MOST};
        for (int what : noWhats) {
            refused("stoneIs what " + what, -1, f -> f.stoneIs(0, what));
        }
        refused("stoneIs of one that is not told", -1, f -> f.stoneIs(17, 0));
    }

    private static void people() {
        int[] nobody = {-1, 8, LEAST, MOST};
        for (int p : nobody) {
            refused("person " + p, 0, f -> of(f.person(p, 5)));
        }
        int[] noStrides = {0, 31, -1, LEAST, MOST};
        for (int stride : noStrides) {
            refused("stride " + stride, 0, f -> of(f.person(3, stride)));
            refused("stride " + stride + " of a told one", 0, f -> of(f.person(0, stride)));
            refused("islands by " + stride, -1, f -> f.islands(stride, 100));
        }
    }

    private static void nights() {
        int[] noNights = {0, 61, -1, LEAST, MOST};
        for (int n : noNights) {
            refused("nights " + n, -1, f -> f.nights(n));
            refused("tried " + n, -100000, f -> f.tried(n, 0));
            refused("tried " + n + " for an X", -100000, f -> f.tried(n, 100));
        }
        int[] noWhats = {-1, 4, 99, 117, 140, 199, 217, 240, LEAST, MOST};
        for (int what : noWhats) {
            refused("tried what " + what, -100000, f -> f.tried(1, what));
        }
    }

    private static void ways() {
        int[] nobody = {-1, 3, 8, LEAST, MOST};
        for (int p : nobody) {
            refused("cross " + p, -1, f -> f.cross(p, 100));
            refused("driest " + p, -1, f -> f.driest(p, 0));
            refused("howFar " + p, -1, f -> f.howFar(p));
            refused("hold " + p, -1, f -> f.hold(p));
            refused("oneMore " + p, -1, f -> f.oneMore(p, 0));
            refused("key " + p, -1, f -> f.key(p, 0));
            refused("meet " + p + " and 0", -1, f -> f.meet(p, 0, 0));
            refused("meet 0 and " + p, -1, f -> f.meet(0, p, 0));
            refused("firstNight " + p, -1, f -> f.firstNight(p));
        }
        int[] noWhats = {-1, 2, LEAST, MOST};
        for (int what : noWhats) {
            refused("driest what " + what, -1, f -> f.driest(0, what));
            refused("oneMore what " + what, -1, f -> f.oneMore(0, what));
            refused("key what " + what, -1, f -> f.key(0, what));
            refused("meet what " + what, -1, f -> f.meet(0, 1, what));
        }
        int[] noCross = {-1, 40, 99, 102, LEAST, MOST};
        for (int what : noCross) {
            refused("cross what " + what, -1, f -> f.cross(7, what));
        }
        int[] noIslands = {-1, 17, 40, 99, 101, LEAST, MOST};
        for (int what : noIslands) {
            refused("islands what " + what, -1, f -> f.islands(5, what));
        }
    }

    private static void walks() {
        int[] nobody = {-1, 3, 8, LEAST, MOST};
        for (int p : nobody) {
            refused("walk of " + p, -1, f -> f.walk(p, 0, 1, 0));
        }
        int[] noX = {-1, 40, LEAST, MOST};
        for (int x : noX) {
            refused("walk from " + x, -1, f -> f.walk(0, x, 1, 0));
        }
        int[] noN = {0, 61, -1, LEAST, MOST};
        for (int n : noN) {
            refused("walk by " + n, -1, f -> f.walk(0, 0, n, 0));
        }
        int[] noWhats = {-1, 4, LEAST, MOST};
        for (int what : noWhats) {
            refused("walk what " + what, -1, f -> f.walk(0, 0, 1, what));
        }
    }

    private static void puzzles() {
        int[] noChalk = {0, 8, -1, LEAST, LEAST + 1, LEAST + 7, MOST, 1 << 30};
        for (int n : noChalk) {
            refused("chalk by " + n, -1, f -> f.chalk(n, 100));
        }
        for (int n = 1; n <= 7; n++) {
            int places = n;
            int[] noWhats = {-1, n, 99, 101, LEAST, MOST};
            for (int what : noWhats) {
                refused("chalk by " + n + ", what " + what, -1, f -> f.chalk(places, what));
            }
        }
        int[] noLetters = {0, 9, -1, LEAST, MOST};
        for (int n : noLetters) {
            refused("letters by " + n, -1, f -> f.letters(n, 0));
        }
        int[] noWhats = {-1, 2, LEAST, MOST};
        for (int what : noWhats) {
            refused("letters what " + what, -1, f -> f.letters(1, what));
        }
        int[] noShapes = {-1, 4, LEAST, MOST};
        for (int what : noShapes) {
            refused("shape " + what, -1, f -> f.shape(what));
        }
        int[] noThrows = {0, 7, -1, LEAST, MOST};
        for (int n : noThrows) {
            refused("thrown " + n, -1, f -> f.thrown(n));
        }
    }

    private static void tapes() {
        refusedAt(13, "feed", -1, f -> f.feed(1, 2, 3, 4, 5));
        int[] noLaws = {0, 241, 260, -1, LEAST, MOST};
        for (int n : noLaws) {
            refused("law " + n, -1, f -> f.law(n));
        }
        int[] noNotebooks = {0, 201, 260, -1, LEAST, MOST};
        for (int n : noNotebooks) {
            refused("notebook " + n, -1, f -> f.notebook(n));
        }
        int[] noChecks = {-1, 41, 260, LEAST, MOST};
        for (int n : noChecks) {
            refused("check " + n, -2, f -> f.check(n));
        }
        for (int feeds = 0; feeds < 3; feeds++) {
            int n = 20 * feeds + 1;
            refusedAt(feeds, "law by one more", -1, f -> f.law(n));
            refusedAt(feeds, "notebook by one more", -1, f -> f.notebook(n));
            refusedAt(feeds, "walk by one more", -1, f -> f.walk(0, 0, n, 0));
        }
        refusedAt(0, "check by one more", -2, f -> f.check(1));
        refusedAt(1, "check by one more", -2, f -> f.check(21));
        refusedAt(0, "chalk of none", -1, f -> f.chalk(1, 100));
        refusedAt(0, "letters of none", -1, f -> f.letters(1, 0));
    }

    private static void others() {
        int[] noSeeds = {-1, 65536, LEAST, MOST};
        for (int x : noSeeds) {
            refused("seed " + x, 0, f -> of(f.seed(x)));
        }
        int[] noCounts = {-1, 7, 8, 9, 13, 18, 100, LEAST, MOST};
        for (int what : noCounts) {
            refused("count " + what, -1, f -> f.count(what));
        }
    }

    private static void asked(String call, Call made) {
        SteppingStones f = rich(2);
        long answer = made.on(f);
        Due.is(call + " answers twice alike", made.on(f), answer);
        State.same(call, f, rich(2));
    }

    private static void asking() {
        asked("tried 60", f -> f.tried(60, 3));
        asked("tried X", f -> f.tried(60, 139));
        asked("stoneIs", f -> f.stoneIs(39, 4));
        asked("at", f -> f.at(0, 1));
        asked("leastStride", SteppingStones::leastStride);
        asked("market", SteppingStones::market);
        for (int p = 0; p < 8; p++) {
            int who = p;
            asked("cross", f -> f.cross(who, 100));
            asked("rows", f -> f.cross(who, 101));
            asked("place 0", f -> f.cross(who, 0));
            asked("place 39", f -> f.cross(who, 39));
            asked("driest", f -> f.driest(who, 0));
            asked("howFar", f -> f.howFar(who));
            asked("hold", f -> f.hold(who));
            asked("oneMore", f -> f.oneMore(who, 1));
            asked("key", f -> f.key(who, 1));
            asked("meet", f -> f.meet(who, 0, 1));
            asked("firstNight", f -> f.firstNight(who));
        }
        asked("islands", f -> f.islands(3, 100));
        asked("island of 0", f -> f.islands(3, 0));
        for (int what = 0; what < 4; what++) {
            int shape = what;
            asked("shape " + what, f -> f.shape(shape));
        }
        asked("thrown", f -> f.thrown(6));
    }

    /** All stays as it is but the tape, which is empty. */
    private static void readOff(String call, String text, long due, Call made) {
        SteppingStones f = rich(0);
        Due.text(f, text);
        Due.is(call, made.on(f), due);
        Due.is(call + ": an empty tape", f.count(5), 0);
        State.same(call, f, rich(0));
    }

    private static void faults() {
        String manyRules = "x(0=1);".repeat(16) + "x";
        readOff("law, fault 1", "u1(1=1);o2(1=1);z", -1016, f -> f.law(17));
        readOff("law, fault 2", "u1(1=1);o000000", -2014, f -> f.law(15));
        readOff("law, fault 4", manyRules, -4112, f -> f.law(113));
        readOff("law, fault 5", "u1(1=1);x(((((((", -5015, f -> f.law(16));
        readOff("notebook, fault 1", "1,1;2,2;", -1008, f -> f.notebook(8));
        readOff("notebook, fault 2", "1,1;2,2;000", -2010, f -> f.notebook(11));
        readOff("notebook, fault 3", "1,1;2,2;40", -3008, f -> f.notebook(10));
        StringBuilder lines = new StringBuilder();
        for (int i = 0; i < 40; i++) {
            lines.append(i % 10).append(',').append(1 + i / 10).append(';');
        }
        readOff("notebook, fault 4", lines + "5", -4160, f -> f.notebook(161));
        readOff("notebook, fault 6", "1,1;2,2;1,1", -6008, f -> f.notebook(11));
        readOff("walk", "u0", 1, f -> f.walk(0, 5, 2, 0));
        readOff("walk, fault 1", "u0,", -1003, f -> f.walk(0, 5, 3, 0));
        readOff("walk, fault 2", "u000", -2003, f -> f.walk(0, 5, 4, 0));
        readOff("walk, fault 5", "(((", -5002, f -> f.walk(0, 5, 3, 0));
        readOff("walk, fault 6", "((u)x9)x7", -6000, f -> f.walk(0, 5, 9, 0));
        readOff("chalk", "\0\1", 0, f -> f.chalk(1, 0));
        readOff("chalk, X 40", "\50\1", -3, f -> f.chalk(1, 0));
        readOff("chalk, Y 21", "\0\25", -3, f -> f.chalk(1, 100));
        readOff("letters", "\1\2", 1, f -> f.letters(2, 0));
        readOff("letters, a weight 0", "\1\0", -2, f -> f.letters(2, 0));
        readOff("check that is right", "", -1, f -> f.check(0));
        readOff("check that is not", "\177", 0, f -> f.check(1));
    }

    private static void neverKept() {
        SteppingStones f = Fords.along();
        Fords.tape(f, 2, 7);
        SteppingStones twin = Fords.along();
        Fords.tape(twin, 2, 7);
        Due.is("undo of none kept", f.undo(), false);
        Due.is("nor by a second one", f.undo(), false);
        State.same("undo of none kept", f, twin);
    }

    /** "An object is used for at most 512 calls": the 512th is still right. */
    private static void calls512() {
        SteppingStones f = new SteppingStones();
        f.stone(0, 0, 1, 0);
        f.stone(1, 39, 20, 9);
        int x = 1;
        for (int k = 1; k <= 169; k++) {
            Due.is("feed in 512 calls", f.feed(0x00270000, 0, 0, 0, 0), 20);
            Due.is("check in 512 calls", f.check(2), -1);
            Due.is("nights in 512 calls", f.nights(1), 0);
            x = (25173 * x + 13849) % 65536;
            x = (25173 * x + 13849) % 65536;
        }
        Due.is("call 510", f.keep(), 169);
        Due.is("call 511", f.undo(), true);
        Due.is("X by the 512th call", f.count(6), x);
    }
}
