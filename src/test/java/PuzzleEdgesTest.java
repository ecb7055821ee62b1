/** Promises 25 to 28 at their edges: least, greatest, one beyond; nothing told, all told. */
public final class PuzzleEdgesTest {
    public static void main(String[] args) {
        chalkBounds();
        chalkPlaces();
        chalkTold();
        chalkLikeOnes();
        shapesOfNone();
        shapesOfAll();
        line();
        yardApart();
        pairs();
        closest();
        lettersBounds();
        lettersBags();
        thrownBounds();
        thrownOfAll();
        Due.end();
    }

    private static int[] corner(int n, int x, int y) {
        int[] places = new int[2 * n];
        for (int k = 0; k < n; k++) {
            places[2 * k] = x;
            places[2 * k + 1] = y;
        }
        return places;
    }

    /** 1 to 7 places; what 0 to n - 1, or 100. */
    private static void chalkBounds() {
        SteppingStones f = Fords.along();
        for (int n = 1; n <= 7; n++) {
            int sum = 10 * n + n * (n - 1) / 2;
            Due.is("how far, " + n, Due.chalk(f, 100, corner(n, 0, 0)), sum);
            Due.is("the first of " + n, Due.chalk(f, 0, corner(n, 0, 0)), 0);
            Due.is("the last of " + n, Due.chalk(f, n - 1, corner(n, 0, 0)), n - 1);
            int[] none = {-1, n, 99, 101};
            for (int what : none) {
                Due.is("what " + what + " of " + n, Due.chalk(f, what, corner(n, 0, 0)), -1);
                Due.is("the tape stays", f.count(5), 20);
                f.check(0);
            }
        }
        Due.bytes(f, corner(10, 0, 0));
        Due.is("none", f.chalk(0, 100), -1);
        Due.is("eight", f.chalk(8, 100), -1);
        Due.is("eight, the eighth", f.chalk(8, 7), -1);
        Due.is("the tape stays", f.count(5), 20);
    }

    /** X 0 to 39; Y up to 20. */
    private static void chalkPlaces() {
        SteppingStones f = Fords.along();
        for (int at = 0; at < 7; at++) {
            int[] most = corner(7, 39, 20);
            Due.is("39, 20 is a place", Due.chalk(f, 100, most), 7 * 49 - 21);
            int[] beyondX = most.clone();
            beyondX[2 * at] = 40;
            Due.is("X 40 of " + at, Due.chalk(f, 100, beyondX), -3);
            int[] beyondY = most.clone();
            beyondY[2 * at + 1] = 21;
            Due.is("Y 21 of " + at, Due.chalk(f, at, beyondY), -3);
            Due.is("empty then", f.count(5), 0);
            beyondX[2 * at] = 255;
            Due.is("X 255 of " + at, Due.chalk(f, 100, beyondX), -3);
            beyondY[2 * at + 1] = 255;
            Due.is("Y 255 of " + at, Due.chalk(f, 100, beyondY), -3);
        }
        Due.is("a byte behind the places", Due.chalk(f, 100, 0, 10, 255, 255) == -3, true);
        Due.bytes(f, 0, 10, 255, 255);
        Due.is("does not matter", f.chalk(1, 100), 0);
    }

    /** As many of the told STONES, the lowest, UNDER or not. */
    private static void chalkTold() {
        for (int n = 1; n <= 7; n++) {
            SteppingStones f = new SteppingStones();
            for (int told = 0; told < n; told++) {
                Due.is(told + " told for " + n, Due.chalk(f, 100, corner(n, 39, 20)), -2);
                Due.is("empty then", f.count(5), 0);
                f.stone(39 - told, 39, 20 - told, 0);
            }
            Due.is("as many told as places", Due.chalk(f, 100, corner(n, 39, 20)), n * (n - 1) / 2);
            Due.is("the lowest is 40 less n", Due.chalk(f, 0, corner(n, 39, 20)), 40 - n);
            f.stone(0, 0, 1, 0);
            f.under(0, true);
            Due.is("a lower one, under, is one of them", Due.chalk(f, 0, corner(n, 0, 1)), 0);
        }
        SteppingStones far = new SteppingStones();
        for (int i = 0; i < 7; i++) {
            far.stone(i, 39, 20 - i, 0);
        }
        Due.is("as far as can be", Due.chalk(far, 100, corner(7, 0, 0)), 7 * 39 + 7 * 20 - 21);
        Due.is("fewer stones and X 40", Due.chalk(new SteppingStones(), 100, 40, 1), -2);
    }

    private static void chalkLikeOnes() {
        SteppingStones f = new SteppingStones();
        for (int i = 0; i < 7; i++) {
            f.stone(5 * i, 3 * i, 7, 0);
        }
        int[] turned = new int[14];
        for (int k = 0; k < 7; k++) {
            turned[2 * k] = 3 * (6 - k);
            turned[2 * k + 1] = 7;
        }
        Due.is("each where it was", Due.chalk(f, 100, turned), 0);
        for (int k = 0; k < 7; k++) {
            Due.is("who was at " + k, Due.chalk(f, k, turned), 5 * (6 - k));
            Due.is("all ways alike: the least row", Due.chalk(f, k, corner(7, 9, 7)), 5 * k);
        }
        SteppingStones two = new SteppingStones();
        two.stone(0, 10, 5, 0);
        two.stone(1, 0, 5, 0);
        Due.is("alike either way, first", Due.chalk(two, 0, 20, 5, 30, 5), 0);
        Due.is("alike either way, second", Due.chalk(two, 1, 20, 5, 30, 5), 1);
        Due.is("not alike, first", Due.chalk(two, 0, 4, 5, 6, 5), 1);
        Due.is("not alike, second", Due.chalk(two, 1, 4, 5, 6, 5), 0);
    }

    private static void shapesOfNone() {
        SteppingStones f = new SteppingStones();
        int[] due = {-1, 0, 0, 0, -2, -1};
        for (int what = -1; what <= 4; what++) {
            Due.is("shape " + what + " of none", f.shape(what), due[what + 1]);
        }
        f.stone(39, 39, 20, 0);
        int[] ofOne = {-1, 1, 1, 0, -2, -1};
        for (int what = -1; what <= 4; what++) {
            Due.is("shape " + what + " of one", f.shape(what), ofOne[what + 1]);
        }
        f.stone(0, 0, 1, 0);
        int[] ofTwo = {-1, 2, 1, 1, 39 * 39 + 19 * 19, -1};
        for (int what = -1; what <= 4; what++) {
            Due.is("shape " + what + " of two", f.shape(what), ofTwo[what + 1]);
        }
    }

    /** The snake's longest line goes along the ford, X 0 to 20 at Y 10; its longest row is Y 10 to 20. */
    private static void shapesOfAll() {
        SteppingStones[] fords = {Fords.along(), Fords.snake(), Fords.twoRows()};
        int[][] due = {{40, 1, 1, 1}, {21, 11, 1, 1}, {20, 20, 2, 1}};
        for (int k = 0; k < fords.length; k++) {
            for (int what = 0; what < 4; what++) {
                Due.is("ford " + k + ", shape " + what, fords[k].shape(what), due[k][what]);
            }
            Fords.allUnder(fords[k]);
            for (int what = 0; what < 4; what++) {
                Due.is("ford " + k + " under, shape " + what, fords[k].shape(what), due[k][what]);
            }
        }
    }

    private static void line() {
        SteppingStones f = new SteppingStones();
        for (int i = 0; i < 20; i++) {
            f.stone(i, i, 1 + i, 0);
            Due.is("one after another", f.shape(0), i + 1);
        }
        for (int i = 20; i < 39; i++) {
            f.stone(i, 39, i - 19, 0);
        }
        Due.is("twenty against nineteen", f.shape(0), 20);
        f.take(0);
        Due.is("nineteen each", f.shape(0), 19);
        SteppingStones steep = new SteppingStones();
        steep.stone(0, 0, 1, 0);
        steep.stone(1, 39, 20, 0);
        steep.stone(2, 20, 10, 0);
        Due.is("nearly on one line", steep.shape(0), 2);
        steep.stone(1, 38, 19, 0);
        steep.stone(2, 19, 10, 0);
        Due.is("just on one", steep.shape(0), 3);
        steep.stone(2, 0, 20, 0);
        steep.stone(3, 0, 10, 0);
        Due.is("at one X", steep.shape(0), 3);
    }

    private static void yardApart() {
        SteppingStones f = new SteppingStones();
        for (int y = 1; y <= 20; y++) {
            f.stone(20 - y, 39, y, 0);
            Due.is("a row of " + y, f.shape(1), y);
        }
        f.take(19);
        Due.is("without the first", f.shape(1), 19);
        f.take(0);
        Due.is("without the last", f.shape(1), 18);
        f.stone(0, 38, 20, 0);
        Due.is("another X", f.shape(1), 18);
        f.take(10);
        Due.is("broken", f.shape(1), 9);
    }

    private static void pairs() {
        SteppingStones f = new SteppingStones();
        for (int k = 0; k < 20; k++) {
            f.stone(2 * k, 4 * (k % 10), 5 + 8 * (k / 10), 0);
            Due.is("a half of a pair", f.shape(2) <= k + 1, true);
            f.stone(2 * k + 1, 4 * (k % 10) + 1, 5 + 8 * (k / 10), 0);
            Due.is("pairs", f.shape(2), k + 1);
        }
        Due.is("twenty at most", f.shape(2), 20);
        SteppingStones even = new SteppingStones();
        even.stone(0, 10, 10, 0);
        even.stone(1, 12, 10, 0);
        even.stone(2, 14, 10, 0);
        Due.is("the middle one has the lowest", even.shape(2), 1);
        even.stone(0, 14, 9, 0);
        even.stone(1, 12, 10, 0);
        even.stone(2, 14, 10, 0);
        Due.is("nearer goes ahead of lower", even.shape(2), 1);
    }

    private static void closest() {
        SteppingStones f = new SteppingStones();
        f.stone(38, 0, 20, 0);
        f.stone(39, 39, 1, 0);
        Due.is("as far as can be", f.shape(3), 39 * 39 + 19 * 19);
        f.stone(0, 0, 19, 0);
        Due.is("as close as can be", f.shape(3), 1);
        f.stone(0, 1, 19, 0);
        Due.is("2", f.shape(3), 2);
        f.stone(0, 2, 20, 0);
        Due.is("4", f.shape(3), 4);
        f.under(0, true);
        Due.is("one under, too", f.shape(3), 4);
    }

    private static void lettersBounds() {
        SteppingStones f = new SteppingStones();
        for (int n = 1; n <= 8; n++) {
            int[] ones = new int[n];
            java.util.Arrays.fill(ones, 1);
            Due.is(n + " of 1", Due.letters(f, 0, ones), n % 2);
            Due.is(n + " of 1, which", Due.letters(f, 1, ones), (1 << Math.max(1, n / 2)) - 1);
            int[] heavy = new int[n];
            java.util.Arrays.fill(heavy, 255);
            Due.is(n + " of 255", Due.letters(f, 0, heavy), n % 2 * 255);
            Due.is("empty then", f.count(5), 0);
            for (int at = 0; at < n; at++) {
                int[] light = ones.clone();
                light[at] = 0;
                Due.is("a weight 0 at " + at + " of " + n, Due.letters(f, 0, light), -2);
                Due.is("which, too", Due.letters(f, 1, light), -2);
                Due.is("empty then", f.count(5), 0);
            }
        }
        Due.bytes(f, 1, 1, 1, 1, 1, 1, 1, 1, 0, 0);
        Due.is("none", f.letters(0, 0), -1);
        Due.is("nine", f.letters(9, 0), -1);
        Due.is("what -1", f.letters(8, -1), -1);
        Due.is("what 2", f.letters(8, 2), -1);
        Due.is("the tape stays", f.count(5), 20);
        Due.is("a weight 0 behind them", f.letters(8, 0), 0);
    }

    private static void lettersBags() {
        SteppingStones f = new SteppingStones();
        Due.is("all but the last", Due.letters(f, 1, 1, 1, 1, 1, 1, 1, 1, 255), 127);
        Due.is("how unlike", Due.letters(f, 0, 1, 1, 1, 1, 1, 1, 1, 255), 248);
        Due.is("the first alone", Due.letters(f, 1, 255, 1, 1, 1, 1, 1, 1, 1), 1);
        Due.is("the first alone, how unlike", Due.letters(f, 0, 255, 1, 1, 1, 1, 1, 1, 1), 248);
        Due.is("the first and the last", Due.letters(f, 1, 3, 50, 50, 50, 50, 50, 50, 253), 129);
        Due.is("one, which", Due.letters(f, 1, 1), 1);
        Due.is("one, how unlike", Due.letters(f, 0, 255), 255);
        Due.is("two alike", Due.letters(f, 0, 255, 255), 0);
        Due.is("two, which", Due.letters(f, 1, 255, 255), 1);
        Due.is("two, as unlike as can be", Due.letters(f, 0, 1, 255), 254);
        Due.is("heavier or lighter alike: the least bits", Due.letters(f, 1, 2, 1, 1, 1), 1);
    }

    private static void thrownBounds() {
        SteppingStones f = new SteppingStones();
        for (int n = 0; n <= 7; n++) {
            Due.is("nothing told, " + n, f.thrown(n), n == 0 || n == 7 ? -1 : -2);
        }
        for (int dry = 1; dry <= 7; dry++) {
            f.stone(40 - dry, 5 * dry, 10, 0);
            for (int n = 1; n <= 6; n++) {
                Due.is(dry + " dry for " + n, f.thrown(n) == -2, n > dry);
            }
        }
        Due.is("one: no throw", f.thrown(1), 0);
        Due.is("two: a throw of 25", f.thrown(2), 25);
        Due.is("six: five of them", f.thrown(6), 125);
        Due.is("none", f.thrown(0), -1);
        Due.is("seven", f.thrown(7), -1);
        Fords.allUnder(f);
        Due.is("all under", f.thrown(1), -2);
        f.under(35, false);
        Due.is("one dry", f.thrown(1), 0);
        Due.is("one dry for two", f.thrown(2), -2);
    }

    private static void thrownOfAll() {
        SteppingStones f = Fords.along();
        Due.is("the six lowest of forty", f.thrown(6), 5);
        f.stone(0, 39, 20, 0);
        Due.is("from the first on, wherever it is", f.thrown(2), 38 * 38 + 100);
        f.stone(1, 0, 1, 0);
        Due.is("as far as can be", f.thrown(2), 39 * 39 + 19 * 19);
        f.under(0, true);
        Due.is("the first is the lowest dry one", f.thrown(2), 4 + 81);
        Fords.allUnder(f);
        for (int i = 34; i < 40; i++) {
            f.under(i, false);
        }
        Due.is("the six highest are the dry ones", f.thrown(6), 5);
        SteppingStones order = new SteppingStones();
        order.stone(0, 20, 10, 0);
        order.stone(1, 0, 10, 0);
        order.stone(2, 39, 10, 0);
        Due.is("the first is in the middle: the nearer first", order.thrown(3), Math.min(400 + 39 * 39, 19 * 19 + 39 * 39));
    }
}
