/** Promises 9, 10 and 23, and what THE LAW does, at their edges: bounds, the last night, nothing told, all told. */
public final class NightEdgesTest {
    public static void main(String[] args) {
        howMany();
        nothingTold();
        allMove();
        allStay();
        allUnder();
        upstream();
        amounts();
        fordBounds();
        takenAtTheBound();
        numbers();
        wrapAround();
        comparisons();
        manyTests();
        manyTerms();
        lettersAtTheirBounds();
        nightModulo100();
        draws();
        lastNight();
        firstNight();
        firstNightAtTheEnd();
        sixteenRules();
        manyLaws();
        Due.end();
    }

    private static SteppingStones one(int x, int y) {
        SteppingStones f = new SteppingStones();
        f.stone(0, x, y, 9);
        return f;
    }

    private static int tried(SteppingStones f, String law, int n, int what) {
        Due.law(f, law);
        return f.tried(n, what);
    }

    /** NIGHTS 1 to 60. */
    private static void howMany() {
        SteppingStones f = one(0, 1);
        Due.law(f, "u1(1=1)");
        Due.is("tried 0 nights", f.tried(0, 0), -100000);
        Due.is("tried 1", f.tried(1, 100), 1);
        Due.is("tried 39", f.tried(39, 100), 39);
        Due.is("tried 60", f.tried(60, 100), 39);
        Due.is("tried 61", f.tried(61, 0), -100000);
        Due.is("0 nights", f.nights(0), -1);
        Due.is("61 nights", f.nights(61), -1);
        Due.is("none has gone by", f.count(0), 0);
        Due.is("1 night", f.nights(1), 1);
        Due.is("one has gone by", f.count(0), 1);
        Due.is("60 nights", f.nights(60), 38);
        Due.is("61 have gone by", f.count(0), 61);
    }

    private static void nothingTold() {
        SteppingStones f = new SteppingStones();
        Due.law(f, "u9(1=1);o9(1=1);x(1=1)");
        for (int what = 0; what < 4; what++) {
            Due.is("nothing told, tried what " + what, f.tried(60, what), 0);
        }
        for (int i = 0; i < 40; i++) {
            Due.is("X of " + i, f.tried(1, 100 + i), -100000);
            Due.is("Y of " + i, f.tried(1, 200 + i), -100000);
        }
        Due.is("nights over none", f.nights(60), 0);
        Due.is("they go by", f.count(0), 60);
        Due.is("nothing is drawn", f.count(6), 1);
    }

    private static void allMove() {
        SteppingStones f = Fords.along();
        Due.law(f, "o1(g%2=0);b1(g%2=1)");
        Due.is("all move in every night", f.tried(60, 0), 2400);
        Due.is("none stays", f.tried(60, 1), 0);
        Due.is("none goes upstream", f.tried(60, 3), 0);
        for (int i = 0; i < 40; i++) {
            Due.is("X of " + i, f.tried(1, 100 + i), i);
            Due.is("Y of " + i, f.tried(1, 200 + i), 11);
            Due.is("Y of " + i + " behind two", f.tried(2, 200 + i), 10);
        }
        Due.is("what 140", f.tried(1, 140), -100000);
        Due.is("what 240", f.tried(1, 240), -100000);
        Due.is("nights", f.nights(60), 2400);
        long x = 1;
        for (int k = 0; k < 2400; k++) {
            x = (25173 * x + 13849) % 65536;
        }
        Due.is("a draw for each stone in each night", f.count(6), x);
    }

    private static void allStay() {
        SteppingStones f = Fords.along();
        Due.law(f, "u1(i<39);d1(i=39)");
        Due.is("all stay in every night", f.tried(60, 1), 2400);
        Due.is("none moves", f.tried(60, 0), 0);
        Due.is("none moves by nights", f.nights(60), 0);
        Due.law(f, "u1(1=1)");
        Due.is("the last is at the bound: it goes nowhere", f.tried(1, 1), 39);
        Due.law(f, "u1(1=1);d1(1=1)");
        Due.is("who goes nowhere does not stay for another", f.tried(60, 1), 0);
    }

    private static void allUnder() {
        SteppingStones f = Fords.along();
        Due.is("all under", tried(f, "x(1=1)", 1, 2), 40);
        Due.is("all under behind 60", f.tried(60, 2), 40);
        Due.is("none by nights yet", f.count(2), 0);
        Fords.allUnder(f);
        Due.is("without an x none is", tried(f, "u0(1=1)", 1, 2), 0);
        Due.is("one alone", tried(f, "x(i=39)", 1, 2), 1);
        Due.is("as they were", tried(f, "x(e=1)", 60, 2), 40);
        Due.is("and not", tried(f, "x(e=0)", 1, 2), 0);
        Due.is("and again", f.tried(2, 2), 40);
    }

    private static void upstream() {
        SteppingStones f = new SteppingStones();
        for (int i = 0; i < 40; i++) {
            f.stone(i, i / 20, 1 + i % 20, 0);
        }
        Due.is("upstream, all", tried(f, "u9(1=1)", 60, 3), 20 * 39 + 20 * 36);
        f.nights(60);
        Due.is("and down", tried(f, "d9(1=1)", 60, 3), -20 * 39 - 20 * 36);
        SteppingStones bound = one(39, 1);
        Due.is("none from the bound", tried(bound, "u9(1=1)", 60, 3), 0);
        Due.is("down to the other", tried(bound, "d9(1=1)", 60, 3), -39);
        Due.is("one down", tried(bound, "d1(1=1)", 1, 3), -1);
        Due.is("over is not upstream", tried(bound, "o9(1=1)", 60, 3), 0);
    }

    /** 0 to 9 each, beyond its bounds the bound, of each of the four letters. */
    private static void amounts() {
        String[] sums = {"0", "1", "8", "9", "10", "99999", "0-1", "0-99999", "65536*32768", "65536*32767+65535"};
        int[] due = {0, 1, 8, 9, 9, 9, 0, 0, 0, 9};
        for (int k = 0; k < sums.length; k++) {
            SteppingStones f = one(10, 10);
            Due.is("u" + sums[k], tried(f, "u" + sums[k] + "(1=1)", 1, 100), 10 + due[k]);
            Due.is("d" + sums[k], tried(f, "d" + sums[k] + "(1=1)", 1, 100), 10 - due[k]);
            Due.is("o" + sums[k], tried(f, "o" + sums[k] + "(1=1)", 1, 200), 10 + due[k]);
            Due.is("b" + sums[k], tried(f, "b" + sums[k] + "(1=1)", 1, 200), 10 - due[k]);
        }
        Due.is("9 less 9", tried(one(10, 10), "u10(1=1);d99(1=1)", 1, 100), 10);
        Due.is("9 less 0", tried(one(10, 10), "u10(1=1);d0-9(1=1)", 1, 100), 19);
    }

    /** As far as THE FORD lets it: X and Y each at its bound at most. */
    private static void fordBounds() {
        for (int far = 1; far <= 9; far++) {
            Due.is("just to X 39", tried(one(39 - far, 5), "u" + far + "(1=1)", 1, 100), 39);
            Due.is("beyond X 39", tried(one(39 - far + 1, 5), "u" + far + "(1=1)", 1, 100), 39);
            Due.is("just to X 0", tried(one(far, 5), "d" + far + "(1=1)", 1, 100), 0);
            Due.is("beyond X 0", tried(one(far - 1, 5), "d" + far + "(1=1)", 1, 100), 0);
            Due.is("just to Y 20", tried(one(5, 20 - far), "o" + far + "(1=1)", 1, 200), 20);
            Due.is("beyond Y 20", tried(one(5, 20 - far + 1), "o" + far + "(1=1)", 1, 200), 20);
            Due.is("just to Y 1", tried(one(5, 1 + far), "b" + far + "(1=1)", 1, 200), 1);
            Due.is("beyond Y 1", tried(one(5, far), "b" + far + "(1=1)", 1, 200), 1);
        }
        SteppingStones corner = one(39, 20);
        Due.is("at both bounds it does not move", tried(corner, "u9(1=1);o9(1=1)", 60, 0), 0);
        Due.is("at one bound it goes on along it", tried(corner, "u9(1=1);b1(1=1)", 1, 200), 19);
        Due.is("and that is a move", corner.tried(1, 0), 1);
    }

    /** Is the place at the bound taken, a stone stays where it is: it does not go a part of the way. */
    private static void takenAtTheBound() {
        SteppingStones f = one(35, 5);
        f.stone(1, 39, 5, 0);
        Due.is("taken at X 39", tried(f, "u9(i=0)", 1, 100), 35);
        Due.is("it stayed", f.tried(1, 1), 1);
        Due.is("in each of 60 nights", f.tried(60, 1), 60);
        Due.is("a place ahead of it is free", tried(f, "u3(i=0)", 1, 100), 38);
        f.under(1, true);
        Due.is("taken by one under", tried(f, "u9(i=0);x(e=1)", 1, 100), 35);
        f.take(1);
        Due.is("free when it is taken out", f.tried(1, 100), 39);
    }

    private static void numbers() {
        SteppingStones f = one(0, 1);
        Due.is("00000", tried(f, "u00000(1=1)", 1, 100), 0);
        Due.is("00007", tried(f, "u00007(1=1)", 1, 100), 7);
        Due.is("99999", tried(f, "u99999-99992(1=1)", 1, 100), 7);
        Due.is("99999 is that", tried(f, "u7(99999=100*1000-1)", 1, 100), 7);
        Due.is("five digits in a test", tried(f, "u7(10000>9999)", 1, 100), 7);
    }

    private static void wrapAround() {
        String most = "65536*32767+65535";
        String least = "65536*32768";
        SteppingStones f = one(0, 1);
        Due.is("the greatest is above 0", tried(f, "u1(" + most + ">0)", 1, 100), 1);
        Due.is("one more is below", tried(f, "u1(" + most + "+1<0)", 1, 100), 1);
        Due.is("it is the least", tried(f, "u1(" + most + "+1=" + least + ")", 1, 100), 1);
        Due.is("one less than the least", tried(f, "u1(" + least + "-1=" + most + ")", 1, 100), 1);
        Due.is("the least by -1", tried(f, "u1([" + least + "]/[0-1]=" + least + ")", 1, 100), 1);
        Due.is("the least modulo -1", tried(f, "u1([" + least + "]%[0-1]=0)", 1, 100), 1);
        Due.is("65536 times 65536", tried(f, "u1(65536*65536=0)", 1, 100), 1);
        Due.is("the greatest times 2", tried(f, "u1([" + most + "]*2=0-2)", 1, 100), 1);
        Due.is("-7 by 2", tried(f, "u1([0-7]/2=0-3)", 1, 100), 1);
        Due.is("-7 modulo 2", tried(f, "u1([0-7]%2=0-1)", 1, 100), 1);
        Due.is("7 modulo -2", tried(f, "u1(7%[0-2]=1)", 1, 100), 1);
        Due.is("7 by 1", tried(f, "u1(7/1=7&7%1=0)", 1, 100), 1);
        Due.is("the least by 1", tried(f, "u1([" + least + "]/1=" + least + ")", 1, 100), 1);
        Due.is("by 0 is refused, of the least, too", tried(f, "u1(" + least + "/0=0|1=1);u2(1=1)", 1, 100), 2);
        Due.is("modulo 0 is refused", tried(f, "u1(0%0=0|1=1);u2(1=1)", 1, 100), 2);
        Due.is("what comes to 0 is 0", tried(f, "u1(1/[65536*65536]=0|1=1);u2(1=1)", 1, 100), 2);
    }

    /** Less, more and alike, each of them, and each with a ! ahead: just below, at and just above. */
    private static void comparisons() {
        char[] signs = {'<', '=', '>'};
        for (int left = 0; left < 3; left++) {
            for (int sign = 0; sign < 3; sign++) {
                boolean holds = Integer.compare(left, 1) == sign - 1;
                String test = left + "" + signs[sign] + "1";
                Due.is(test, tried(one(0, 1), "u1(" + test + ")", 1, 100), holds ? 1 : 0);
                Due.is("!" + test, tried(one(0, 1), "u1(!" + test + ")", 1, 100), holds ? 0 : 1);
                Due.is("!!" + test, tried(one(0, 1), "u1(!!" + test + ")", 1, 100), holds ? 1 : 0);
                Due.is("!(" + test + ")", tried(one(0, 1), "u1(!(" + test + "))", 1, 100), holds ? 0 : 1);
            }
        }
    }

    /** As many TESTS as a law has room for: all must hold, or one must; the last counts like the first. */
    private static void manyTests() {
        for (int tests = 1; tests <= 58; tests++) {
            String ahead = "1=1&".repeat(tests - 1);
            Due.is(tests + " TESTS, all hold", tried(one(0, 1), "u1(" + ahead + "1=1)", 1, 100), 1);
            Due.is(tests + " TESTS, but for the last", tried(one(0, 1), "u1(" + ahead + "1=0)", 1, 100), 0);
            String none = "1=0|".repeat(tests - 1);
            Due.is(tests + " PARTS, the last holds", tried(one(0, 1), "u1(" + none + "1=1)", 1, 100), 1);
            Due.is(tests + " PARTS, none holds", tried(one(0, 1), "u1(" + none + "1=0)", 1, 100), 0);
        }
        String two = "(1=1&1=1)&";
        Due.is("(C)s", tried(one(0, 1), "u1(" + two.repeat(22) + "1=1)", 1, 100), 1);
        Due.is("!TESTs", tried(one(0, 1), "u1(" + "!1=0&".repeat(45) + "1=1)", 1, 100), 1);
        Due.is("by turns", tried(one(0, 1), "u1(" + "1=1&1=0|".repeat(28) + "1=1)", 1, 100), 1);
    }

    /** As many TERMS and FACTORS as a law has room for, and the deepest [ on both sides of a TEST. */
    private static void manyTerms() {
        for (int terms = 1; terms <= 116; terms += 5) {
            String sum = "1+".repeat(terms - 1) + "1";
            Due.is(terms + " TERMS", tried(one(0, 1), "u1(" + sum + "=" + terms + ")", 1, 100), 1);
            Due.is("and not one more", tried(one(0, 1), "u1(" + sum + "=" + (terms + 1) + ")", 1, 100), 0);
            String product = "7*1/1%9*".repeat(Math.min(terms, 28) - 1) + "7";
            int due = 7;
            for (int k = 1; k < Math.min(terms, 28); k++) {
                due = due % 9 * 7;
            }
            Due.is(product, tried(one(0, 1), "u1(" + product + "=" + due + ")", 1, 100), 1);
        }
        String deep = "1+1*[".repeat(5) + "1+1*2" + "]".repeat(5);
        Due.is("deep on both sides", tried(one(0, 1), "u1(" + deep + "=" + deep + ")", 1, 100), 1);
        Due.is("deep, and not alike", tried(one(0, 1), "u1(" + deep + "=" + deep + "+1)", 1, 100), 0);
        Due.is("deep, behind TESTS", tried(one(0, 1), "u1(" + "1=1&".repeat(49) + deep + "=8)", 1, 100), 1);
        Due.is("deep, behind TESTS, not 7", tried(one(0, 1), "u1(" + "1=1&".repeat(49) + deep + "=7)", 1, 100), 0);
    }

    private static void lettersAtTheirBounds() {
        SteppingStones f = Fords.twoRows();
        f.stone(0, 0, 1, 0);
        f.stone(39, 39, 20, 9);
        f.under(39, true);
        String[] least = {"i=0", "x=0", "y=1", "s=0", "e=0"};
        String[] most = {"i=39", "x=39", "y=20", "s=9", "e=1"};
        for (int k = 0; k < least.length; k++) {
            Due.is(least[k] + " of 0", tried(f, "u1(i=0&" + least[k] + ")", 1, 100), 1);
            Due.is(most[k] + " of 39", tried(f, "d1(i=39&" + most[k] + ")", 1, 139), 38);
            Due.is(most[k] + " not of 0", tried(f, "u1(i=0&" + most[k] + ")", 1, 100), 0);
            Due.is(least[k] + " not of 39", tried(f, "d1(i=39&" + least[k] + ")", 1, 139), 39);
        }
        Due.is("two are close at the end", tried(f, "u1(i=0&n=2)", 1, 100), 1);
        Due.is("four between", tried(f, "u1(i=9&n=4)", 1, 109), 1);
        Due.is("none is close", tried(one(0, 1), "u1(n=0)", 1, 100), 1);
        SteppingStones packed = new SteppingStones();
        for (int i = 0; i < 25; i++) {
            packed.stone(i, 10 + i % 5, 10 + i / 5, 0);
        }
        Due.is("twelve at most", tried(packed, "u9(i=12&n=12)", 1, 112), 21);
    }

    private static void nightModulo100() {
        SteppingStones f = one(0, 1);
        Due.is("g in night 0", tried(f, "u1(g=0)", 1, 100), 1);
        Due.law(f, "x(0=1)");
        Fords.toNight(f, 99);
        Due.is("g in night 99", tried(f, "u1(g=99)", 1, 100), 1);
        Due.is("g behind it is 0", tried(f, "u1(g=0)", 2, 100), 1);
        Due.law(f, "x(0=1)");
        Fords.toNight(f, 100);
        Due.is("g in night 100", tried(f, "u1(g=0)", 1, 100), 1);
        Due.is("g is never 100", tried(f, "u1(g>99)", 60, 100), 0);
        Fords.toNight(f, 9998);
        Due.is("g in night 9998", tried(f, "u1(g=98)", 1, 100), 1);
    }

    /** r is 0 to 9, the draw modulo 10; the draw itself goes from 0 to 65535. */
    private static void draws() {
        int least = seedThatDraws(0);
        int most = seedThatDraws(65535);
        SteppingStones f = one(0, 1);
        f.seed(least);
        Due.is("r of a draw of 0", tried(f, "u1(r=0)", 1, 100), 1);
        f.nights(1);
        Due.is("X is 0", f.count(6), 0);
        SteppingStones g = one(0, 1);
        g.seed(most);
        Due.is("r of a draw of 65535", tried(g, "u1(r=5)", 1, 100), 1);
        g.nights(1);
        Due.is("X is 65535", g.count(6), 65535);
        SteppingStones all = Fords.along();
        Due.is("r is never below 0 or above 9", tried(all, "o1(r<0|r>9)", 60, 0), 0);
        int nines = 0;
        long x = 1;
        for (int k = 0; k < 40; k++) {
            x = (25173 * x + 13849) % 65536;
            nines += x % 10 == 9 ? 1 : 0;
        }
        Due.is("as many draw 9", tried(all, "o1(r=9)", 1, 0), nines);
    }

    private static int seedThatDraws(int due) {
        for (int x = 0; x < 65536; x++) {
            if ((25173L * x + 13849) % 65536 == due) {
                return x;
            }
        }
        return -1;
    }

    /** 9999 at most: then none goes by. */
    private static void lastNight() {
        SteppingStones f = one(0, 1);
        f.person(0, 20);
        Fords.toNight(f, 9997);
        Due.law(f, "u1(1=1);x(1=1)");
        f.seed(5);
        Due.is("tried 1 of 2", f.tried(1, 0), 1);
        Due.is("tried 2 of 2", f.tried(2, 0), 2);
        Due.is("tried 3 of 2", f.tried(3, 0), 2);
        Due.is("tried 60 of 2", f.tried(60, 3), 2);
        Due.is("60 of 2", f.nights(60), 2);
        Due.is("9999", f.count(0), 9999);
        int x = f.count(6);
        Due.is("two draws", x, (25173L * ((25173L * 5 + 13849) % 65536) + 13849) % 65536);
        Due.law(f, "u9(1=1)");
        Due.is("none goes by", f.nights(1), 0);
        Due.is("none of 60", f.nights(60), 0);
        Due.is("9999 still", f.count(0), 9999);
        Due.is("no draw", f.count(6), x);
        Due.is("it stays under", f.stoneIs(0, 3), 1);
        Due.is("it stays where it is", f.stoneIs(0, 0), 2);
        Due.is("tried: no move", f.tried(60, 0), 0);
        Due.is("tried: under still", f.tried(60, 2), 1);
        Due.is("tried: X", f.tried(60, 100), 2);
        Due.is("0 nights are refused all the same", f.nights(0), -1);
        Due.is("61, too", f.nights(61), -1);
        Due.is("tried, too", f.tried(61, 0), -100000);
    }

    /** Behind how many NIGHTS, 0 to 60. */
    private static void firstNight() {
        for (int due = 1; due <= 60; due++) {
            SteppingStones f = one(5, 10);
            f.person(0, 11);
            f.under(0, true);
            Due.law(f, "x(g<" + (due - 1) + ")");
            Due.is("behind " + due, f.firstNight(0), due);
        }
        SteppingStones f = one(5, 10);
        f.person(0, 11);
        f.person(7, 21);
        Due.is("now", f.firstNight(0), 0);
        Due.is("without a stone", f.firstNight(7), 0);
        f.under(0, true);
        Due.law(f, "x(g<60)");
        Due.is("behind 61 is too late", f.firstNight(0), -2);
        f.nights(1);
        Due.is("a night later it is not", f.firstNight(0), 60);
        Due.is("nothing told", Fords.people().firstNight(4), -2);
        Due.is("nothing told, a long stride", Fords.people().firstNight(5), 0);
        Due.is("all told", Fords.along().firstNight(3), 0);
        Due.is("all told, a short stride", Fords.along().firstNight(2), -2);
        SteppingStones moved = Fords.along();
        Due.is("all told and moved: over", tried(moved, "o1(i=39)", 1, 239), 11);
        Due.is("then a stride of 10 does, from another stone", moved.firstNight(2), 1);
    }

    private static void firstNightAtTheEnd() {
        SteppingStones f = one(5, 10);
        f.person(0, 11);
        Fords.toNight(f, 9998);
        f.under(0, true);
        Due.is("dry behind the last night", f.firstNight(0), 1);
        Due.law(f, "x(g=98)");
        Due.is("under behind it, and none comes then", f.firstNight(0), -2);
        f.nights(1);
        Due.is("no night to come", f.firstNight(0), -2);
        f.under(0, false);
        Due.is("now", f.firstNight(0), 0);
    }

    /** Of the first RULE whose C holds: that may be the 16th. */
    private static void sixteenRules() {
        SteppingStones f = one(0, 1);
        Due.is("the 16th", tried(f, "u1(0=1);".repeat(15) + "u7(1=1)", 1, 100), 7);
        Due.is("the first", tried(f, "u7(1=1);" + "u1(1=1);".repeat(14) + "u2(1=1)", 1, 100), 7);
        Due.is("the 16th is an x", tried(f, "x(0=1);".repeat(15) + "x(1=1)", 1, 2), 1);
        Due.is("the first is an x", tried(f, "x(1=1);" + "x(0=1);".repeat(14) + "x(0=1)", 1, 2), 1);
        Due.is("none", tried(f, "x(0=1);".repeat(15) + "u1(0=1)", 1, 0), 0);
    }

    /** In place of the one before: nothing of any earlier LAW is left, however many there were. */
    private static void manyLaws() {
        SteppingStones f = one(0, 1);
        Due.law(f, "u1(1=1);u9(1=1)");
        Due.law(f, "u1(1=1);x(1=1)");
        Due.is("the rules of an earlier law are gone", tried(f, "o1(1+[1+[1+[1+[1+[1+1]]]]]>0)", 1, 100), 0);
        Due.is("the one that rules does", f.tried(1, 200), 2);
        Due.is("the x of an earlier one is gone", tried(f, "o1(1+[1+[1+[1+[1+[1+1]]]]]>0)", 1, 2), 0);
        for (int k = 0; k < 12; k++) {
            int far = 1 + k % 9;
            String law = "u0(" + "0+".repeat(100) + "0=1);u" + far + "(" + "1+".repeat(10) + "0=10)";
            Due.is("law " + k, Due.law(f, law), 2);
            Due.is("by law " + k, f.tried(1, 100), far);
        }
        Due.law(f, "u1(1=1);".repeat(15) + "x(1=1)");
        Due.law(f, "u2(1=1);".repeat(15) + "x(1=1)");
        Due.law(f, "o3(1=1)");
        Due.is("one rule in place of sixteen", f.count(4), 1);
        Due.is("no u", f.tried(1, 100), 0);
        Due.is("no x", f.tried(1, 2), 0);
        Due.is("o", f.tried(1, 200), 4);
    }
}
