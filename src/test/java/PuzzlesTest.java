/** Promises 25 to 28: chalk, shapes, letters, throws. */
public final class PuzzlesTest {
    public static void main(String[] args) {
        chalk();
        line();
        yardApart();
        pairs();
        closest();
        letters();
        thrown();
        Due.end();
    }

    private static void chalk() {
        SteppingStones f = new SteppingStones();
        f.stone(3, 10, 10, 0);
        f.stone(5, 20, 10, 0);
        f.stone(8, 10, 12, 0);
        f.under(5, true);
        Due.is("one", Due.chalk(f, 100, 12, 13), 5);
        Due.is("of one", Due.chalk(f, 0, 12, 13), 3);
        Due.is("the two lowest", Due.chalk(f, 100, 10, 12, 10, 10), 12);
        Due.is("first place", Due.chalk(f, 0, 10, 12, 10, 10), 3);
        Due.is("second place", Due.chalk(f, 1, 10, 12, 10, 10), 5);
        Due.is("three", Due.chalk(f, 100, 10, 12, 10, 10, 20, 10), 0);
        Due.is("who was first", Due.chalk(f, 0, 10, 12, 10, 10, 20, 10), 8);
        Due.is("who was second", Due.chalk(f, 1, 10, 12, 10, 10, 20, 10), 3);
        Due.is("who was third", Due.chalk(f, 2, 10, 12, 10, 10, 20, 10), 5);
        Due.is("of like ones the least row", Due.chalk(f, 0, 0, 0, 0, 0, 0, 0), 3);
        Due.is("and so on", Due.chalk(f, 2, 0, 0, 0, 0, 0, 0), 8);
        Due.is("Y 0 may be", Due.chalk(f, 100, 10, 0), 10);
        Due.is("fewer", Due.chalk(f, 100, 1, 1, 1, 1, 1, 1, 1, 1), -2);
        Due.is("empty then", f.count(5), 0);
        Due.is("X 40", Due.chalk(f, 100, 40, 1), -3);
        Due.is("Y 21", Due.chalk(f, 100, 1, 21), -3);
        Due.is("Y 21 of the last", Due.chalk(f, 100, 1, 1, 1, 1, 1, 21), -3);
        Due.is("X 255", Due.chalk(f, 100, 255, 1), -3);
        Due.is("39, 20", Due.chalk(f, 100, 39, 20), 39);
        Due.is("none on the tape", f.chalk(1, 100), -1);
        Due.bytes(f, new int[1]);
        Due.is("n 0", f.chalk(0, 100), -1);
        Due.is("n 8", f.chalk(8, 100), -1);
        Due.is("n -1", f.chalk(-1, 100), -1);
        Due.is("n whose double is 2", f.chalk(Integer.MIN_VALUE + 1, 100), -1);
        Due.is("n whose double is 0", f.chalk(Integer.MIN_VALUE, 100), -1);
        Due.is("what -1", f.chalk(1, -1), -1);
        Due.is("what 1 of 1", f.chalk(1, 1), -1);
        Due.is("what 101", f.chalk(1, 101), -1);
        Due.is("the tape stays", f.count(5), 20);
        f.stone(9, 0, 1, 0);
        f.stone(10, 1, 1, 0);
        f.stone(11, 2, 1, 0);
        f.stone(12, 3, 1, 0);
        f.check(0);
        Due.is("seven", Due.chalk(f, 100, 3, 1, 2, 1, 1, 1, 0, 1, 10, 12, 20, 10, 10, 11), 1);
        Due.is("seventh", Due.chalk(f, 6, 3, 1, 2, 1, 1, 1, 0, 1, 10, 12, 20, 10, 10, 11), 3);
        Due.is("first of seven", Due.chalk(f, 0, 3, 1, 2, 1, 1, 1, 0, 1, 10, 12, 20, 10, 10, 11), 12);
    }

    private static void line() {
        SteppingStones f = new SteppingStones();
        Due.is("none", f.shape(0), 0);
        f.stone(0, 0, 1, 0);
        Due.is("one", f.shape(0), 1);
        f.stone(1, 10, 1, 0);
        Due.is("two", f.shape(0), 2);
        f.stone(2, 5, 9, 0);
        Due.is("no three", f.shape(0), 2);
        f.stone(3, 20, 17, 0);
        f.under(3, true);
        f.stone(4, 15, 13, 0);
        Due.is("three by 5, 4", f.shape(0), 3);
        f.stone(5, 10, 9, 0);
        f.stone(6, 7, 9, 0);
        f.stone(7, 37, 9, 0);
        Due.is("four at one Y", f.shape(0), 4);
        Due.is("what -1", f.shape(-1), -1);
        Due.is("what 4", f.shape(4), -1);
    }

    private static void yardApart() {
        SteppingStones f = new SteppingStones();
        Due.is("none", f.shape(1), 0);
        f.stone(0, 5, 5, 0);
        f.stone(1, 5, 7, 0);
        f.stone(2, 6, 6, 0);
        Due.is("one", f.shape(1), 1);
        f.stone(3, 5, 6, 0);
        f.under(3, true);
        Due.is("three", f.shape(1), 3);
        for (int y = 1; y <= 20; y++) {
            f.stone(9 + y, 39, y, 0);
        }
        Due.is("twenty", f.shape(1), 20);
        f.take(19);
        Due.is("ten", f.shape(1), 10);
    }

    private static void pairs() {
        SteppingStones f = new SteppingStones();
        Due.is("none", f.shape(2), 0);
        f.stone(4, 5, 5, 0);
        Due.is("one", f.shape(2), 0);
        f.stone(7, 8, 5, 0);
        Due.is("a pair", f.shape(2), 1);
        f.stone(9, 11, 5, 0);
        Due.is("of like ones the lowest", f.shape(2), 1);
        f.stone(2, 11, 8, 0);
        Due.is("two pairs", f.shape(2), 2);
        f.stone(1, 8, 2, 0);
        Due.is("7 has 1 then", f.shape(2), 2);
        f.under(1, true);
        Due.is("one under counts", f.shape(2), 2);
    }

    private static void closest() {
        SteppingStones f = new SteppingStones();
        Due.is("none", f.shape(3), -2);
        f.stone(4, 0, 1, 0);
        Due.is("one", f.shape(3), -2);
        f.stone(7, 39, 20, 0);
        Due.is("far", f.shape(3), 39 * 39 + 19 * 19);
        f.stone(9, 3, 5, 0);
        Due.is("5", f.shape(3), 25);
        f.stone(8, 39, 19, 0);
        f.under(8, true);
        Due.is("1", f.shape(3), 1);
    }

    private static void letters() {
        SteppingStones f = new SteppingStones();
        Due.is("alike", Due.letters(f, 0, 5, 4, 3, 2), 0);
        Due.is("which", Due.letters(f, 1, 5, 4, 3, 2), 9);
        Due.is("one", Due.letters(f, 0, 200), 200);
        Due.is("one, which", Due.letters(f, 1, 200), 1);
        Due.is("of like ones the least", Due.letters(f, 1, 1, 1, 1, 1), 3);
        Due.is("odd", Due.letters(f, 0, 1, 1, 1), 1);
        Due.is("odd, the least", Due.letters(f, 1, 1, 1, 1), 1);
        Due.is("eight", Due.letters(f, 0, 255, 255, 255, 255, 255, 255, 255, 254), 1);
        Due.is("eight, which", Due.letters(f, 1, 255, 255, 255, 255, 255, 255, 255, 254), 15);
        Due.is("a great one", Due.letters(f, 0, 3, 255, 4), 248);
        Due.is("a great one, which", Due.letters(f, 1, 3, 255, 4), 5);
        Due.is("a weight 0", Due.letters(f, 0, 3, 0), -2);
        Due.is("empty then", f.count(5), 0);
        Due.is("none on the tape", f.letters(1, 0), -1);
        Due.bytes(f, 7, 0);
        Due.is("n 0", f.letters(0, 0), -1);
        Due.is("n 9", f.letters(9, 0), -1);
        Due.is("what 2", f.letters(1, 2), -1);
        Due.is("what -1", f.letters(1, -1), -1);
        Due.is("the tape stays", f.count(5), 20);
        Due.is("a 0 behind does not count", f.letters(1, 0), 7);
    }

    private static void thrown() {
        SteppingStones f = new SteppingStones();
        Due.is("n 0", f.thrown(0), -1);
        Due.is("n 7", f.thrown(7), -1);
        Due.is("none", f.thrown(1), -2);
        f.stone(3, 10, 10, 0);
        Due.is("one", f.thrown(1), 0);
        Due.is("not so many", f.thrown(2), -2);
        f.stone(4, 20, 10, 0);
        f.stone(5, 12, 10, 0);
        f.stone(6, 30, 10, 0);
        Due.is("two", f.thrown(2), 100);
        Due.is("three", f.thrown(3), 4 + 64);
        Due.is("four", f.thrown(4), 4 + 64 + 100);
        f.under(5, true);
        Due.is("one under", f.thrown(3), 200);
        Due.is("not so many dry ones", f.thrown(4), -2);
        f.under(5, false);
        f.stone(0, 20, 11, 0);
        Due.is("the first is where it begins", f.thrown(3), 1 + 100);
        f.stone(39, 31, 10, 0);
        f.stone(38, 32, 10, 0);
        Due.is("six", f.thrown(6), sixThrows());
    }

    /** The fewest of all orders. */
    private static int sixThrows() {
        int[][] at = {{20, 11}, {10, 10}, {20, 10}, {12, 10}, {30, 10}, {32, 10}};
        return fewest(at, 0, 1, 0);
    }

    private static int fewest(int[][] at, int last, int had, int sum) {
        if (had == (1 << at.length) - 1) {
            return sum;
        }
        int best = Integer.MAX_VALUE;
        for (int k = 0; k < at.length; k++) {
            if ((had >> k & 1) == 0) {
                int dx = at[k][0] - at[last][0];
                int dy = at[k][1] - at[last][1];
                best = Math.min(best, fewest(at, k, had | 1 << k, sum + dx * dx + dy * dy));
            }
        }
        return best;
    }
}
