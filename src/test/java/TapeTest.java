/** The tape, as promises 6 to 8, 24, 25, 27 and 32 use it: empty, full, and with fewer bytes than are asked for. */
public final class TapeTest {
    /** One who reads the first n bytes of the tape. */
    private interface Reader {
        int read(SteppingStones f, int n);
    }

    public static void main(String[] args) {
        feeding();
        byteOrder();
        empty();
        fewer();
        full();
        emptied();
        behindOneAnother();
        stale();
        Due.end();
    }

    private static SteppingStones ford() {
        SteppingStones f = new SteppingStones();
        f.person(0, 5);
        for (int i = 0; i < 7; i++) {
            f.stone(i, i, 3, 0);
        }
        return f;
    }

    private static void feeding() {
        SteppingStones f = new SteppingStones();
        Due.is("nothing fed", f.count(5), 0);
        for (int k = 1; k <= 13; k++) {
            Due.is("feed " + k, f.feed(k, k, k, k, k), 20 * k);
            Due.is("count behind feed " + k, f.count(5), 20 * k);
        }
        for (int k = 0; k < 3; k++) {
            Due.is("a 14th feed", f.feed(1, 2, 3, 4, 5), -1);
            Due.is("count behind it", f.count(5), 260);
        }
    }

    /** The highest byte of each int first; every byte is 0 to 255, never less than 0. */
    private static void byteOrder() {
        SteppingStones f = new SteppingStones();
        for (int i = 0; i < 20; i++) {
            f.stone(i, 2 * i + 1, 1, 0);
        }
        f.feed(0x01030507, 0x090B0D0F, 0x11131517, 0x191B1D1F, 0x21232527);
        Due.is("all twenty in their order", f.check(20), -1);
        f.feed(0x01030507, 0x090B0D0F, 0x11131517, 0x191B1D1F, 0x21232526);
        Due.is("the last of them", f.check(20), 19);
        f.feed(0x02030507, 0x090B0D0F, 0x11131517, 0x191B1D1F, 0x21232527);
        Due.is("the first of them", f.check(20), 0);
        SteppingStones bare = new SteppingStones();
        bare.feed(-1, -1, -1, -1, -1);
        Due.is("twenty of 255", bare.check(20), -1);
        bare.feed(0xFF80FF01, Integer.MIN_VALUE, Integer.MAX_VALUE, 0, 0);
        Due.is("255, 128: how unlike", bare.letters(2, 0), 127);
        bare.feed(0xFF80FF01, 0xFF80FF01, 0, 0, 0);
        Due.is("eight of them: how unlike", bare.letters(8, 0), 0);
        bare.feed(Integer.MIN_VALUE, 0, 0, 0, 0);
        Due.is("the highest bit", bare.letters(1, 0), 128);
    }

    private static void empty() {
        SteppingStones f = ford();
        int[] asked = {1, 2, 7, 8, 14, 20, 40, 60, 200, 240};
        for (int n : asked) {
            Due.is("law(" + n + ") of none", f.law(n), -1);
            Due.is("notebook(" + n + ") of none", f.notebook(n), -1);
            Due.is("walk of " + n + " of none", f.walk(0, 0, n, 0), -1);
            Due.is("chalk(" + n + ") of none", f.chalk(n, 100), -1);
            Due.is("letters(" + n + ") of none", f.letters(n, 0), -1);
            Due.is("check(" + n + ") of none", f.check(n), -2);
        }
        Due.is("check(0) of none", f.check(0), -1);
        Due.is("none is on it still", f.count(5), 0);
    }

    private static void fewer(String name, int least, int most, int refusal, Reader reader) {
        for (int feeds = 1; 20 * feeds < most; feeds++) {
            SteppingStones f = ford();
            Fords.tape(f, feeds, '#');
            for (int n = 20 * feeds + 1; n <= most; n++) {
                Due.is(name + " by " + n + " of " + 20 * feeds, reader.read(f, n), refusal);
            }
            Due.is(name + ": the tape stays", f.count(5), 20 * feeds);
            Due.is(name + " by all " + 20 * feeds, reader.read(f, 20 * feeds) != refusal, true);
            Due.is(name + ": it is empty then", f.count(5), 0);
            Due.is(name + " by " + least + " of none", reader.read(f, least), refusal);
        }
    }

    private static void fewer() {
        fewer("law", 1, 240, -1, SteppingStones::law);
        fewer("notebook", 1, 200, -1, SteppingStones::notebook);
        fewer("walk", 1, 60, -1, (f, n) -> f.walk(0, 39, n, 3));
        fewer("check", 1, 40, -2, SteppingStones::check);
    }

    private static void full(String name, int least, int most, int refusal, Reader reader) {
        int[] beyond = {least - 1, most + 1, 259, 260, 261, -1, Integer.MIN_VALUE, Integer.MAX_VALUE};
        SteppingStones f = ford();
        Fords.tape(f, 13, '#');
        for (int n : beyond) {
            Due.is(name + " by " + n + " of 260", reader.read(f, n), refusal);
            Due.is(name + " by " + n + ": the tape stays", f.count(5), 260);
        }
        int[] within = {least, most};
        for (int n : within) {
            Fords.tape(f, 13, '#');
            Due.is(name + " by " + n + " of 260", reader.read(f, n) != refusal, true);
            Due.is(name + " by " + n + ": it is empty then", f.count(5), 0);
        }
    }

    private static void full() {
        full("law", 1, 240, -1, SteppingStones::law);
        full("notebook", 1, 200, -1, SteppingStones::notebook);
        full("walk", 1, 60, -1, (f, n) -> f.walk(0, 0, n, 0));
        full("chalk", 1, 7, -1, (f, n) -> f.chalk(n, 100));
        full("letters", 1, 8, -1, (f, n) -> f.letters(n, 1));
        full("check", 0, 40, -2, SteppingStones::check);
    }

    /** Whatever a reader answers but NONE (of check -2), the whole tape is empty then. */
    private static void emptied() {
        SteppingStones f = ford();
        Fords.tape(f, 13, 0);
        Due.is("a law's fault", f.law(1), -1000);
        Due.is("empty by it", f.count(5), 0);
        Fords.tape(f, 13, 0);
        Due.is("a notebook's fault", f.notebook(1), -1000);
        Due.is("empty by it", f.count(5), 0);
        Fords.tape(f, 13, 0);
        Due.is("a walk's fault", f.walk(0, 0, 1, 0), -1000);
        Due.is("empty by it", f.count(5), 0);
        Fords.tape(f, 13, 0);
        Due.is("a weight 0", f.letters(1, 0), -2);
        Due.is("empty by it", f.count(5), 0);
        Fords.tape(f, 13, 40);
        Due.is("X 40", f.chalk(1, 100), -3);
        Due.is("empty by it", f.count(5), 0);
        f.take(6);
        Fords.tape(f, 13, 0);
        Due.is("fewer stones", f.chalk(7, 100), -2);
        Due.is("empty by it", f.count(5), 0);
        Fords.tape(f, 13, 1);
        Due.is("a check that is not right", f.check(1), 0);
        Due.is("empty by it", f.count(5), 0);
        Fords.tape(f, 13, 1);
        Due.is("a check of none", f.check(0), -1);
        Due.is("empty by it", f.count(5), 0);
    }

    /** What is fed later comes behind: a text may go over the seam of two feeds. */
    private static void behindOneAnother() {
        SteppingStones f = ford();
        f.feed(0x31322C31, 0x333B3134, 0x2C31353B, 0x31362C31, 0x373B3138);   // 12,13;14,15;16,17;18
        f.feed(0x2C313923, 0x23232323, 0x23232323, 0x23232323, 0x23232323);   // ,19
        Due.is("a line over the seam", f.notebook(23), 4);
        Due.is("X ahead of it", f.stoneIs(3, 0), 18);
        Due.is("Y behind it", f.stoneIs(3, 1), 19);
        f.feed(0x31322C31, 0x333B3134, 0x2C31353B, 0x31362C31, 0x373B3138);
        Due.is("a refused one", f.notebook(21), -1);
        f.feed(0x2C313923, 0x23232323, 0x23232323, 0x23232323, 0x23232323);
        Due.is("the bytes ahead stay by it", f.notebook(23), 4);
    }

    /** What was on the tape ahead of its emptying does not come back. */
    private static void stale() {
        SteppingStones f = ford();
        Fords.tape(f, 13, 'u');
        f.check(0);
        Due.is("none comes back", f.walk(0, 0, 1, 0), -1);
        f.feed(0x75757575, 0x75757575, 0x75757575, 0x75757575, 0x7575752C);
        Due.is("nor behind twenty new ones", f.walk(0, 0, 21, 0), -1);
        Due.is("the end is where the n bytes end", f.walk(0, 0, 20, 0), -1020);
        f.feed(0x75752C75, 0, 0, 0, 0);
        Due.is("bytes behind n do not matter", f.walk(0, 0, 2, 2), 2);
        f.feed(0x75000000, 0, 0, 0, 0);
        Due.is("but within n they do", f.walk(0, 0, 2, 2), -1001);
    }
}
