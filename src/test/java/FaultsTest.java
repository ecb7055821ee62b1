/**
 * Promises 7, 8 and 24: each FAULT at the first place and at the last one where it can be, and texts of the
 * greatest length that have none.
 */
public final class FaultsTest {
    public static void main(String[] args) {
        lawFirst();
        lawLast();
        lawJustHolds();
        lawStays();
        notebookFirst();
        notebookLast();
        notebookJustHolds();
        notebookStays();
        walkFirst();
        walkLast();
        walkJustHolds();
        walkCountsSteps();
        leftmost();
        everyByte();
        Due.end();
    }

    /** A rule that never holds, of any length from 6 on. */
    private static String rule(int bytes) {
        return "x(" + (bytes % 2 == 0 ? "0" : "00") + "+0".repeat((bytes - 6) / 2) + "=1)";
    }

    /** Hops that go nowhere in all, of any length from 2 on. */
    private static String hops(int bytes) {
        return bytes % 2 == 0 ? "u0".repeat(bytes / 2) : "u00" + "u0".repeat((bytes - 3) / 2);
    }

    /** A notebook of as many lines and bytes: the first lines grow by leading zeros, s0 and u. */
    private static String lines(int count, int bytes) {
        String[] tails = {"", "", "", "u", "s0", "s0u"};
        StringBuilder text = new StringBuilder();
        int more = bytes - (4 * count - 1);
        for (int i = 0; i < count; i++) {
            int grow = Math.min(more, 5);
            more -= grow;
            text.append(i > 0 ? ";" : "").append(grow > 0 ? "0" : "").append(i % 10);
            text.append(grow > 1 ? ",0" : ",").append(1 + i / 10).append(tails[grow]);
        }
        Due.is("bytes of a notebook of " + count + " lines", text.length(), bytes);
        return text.toString();
    }

    private static void law(String text, int due) {
        SteppingStones f = new SteppingStones();
        Due.law(f, "x(0=1);x(0=1)");
        Due.is("law " + text, Due.law(f, text), due);
        Due.is("rules by " + text, f.count(4), due > 0 ? due : 2);
        Due.is("tape by " + text, f.count(5), 0);
    }

    private static void notebook(String text, int due) {
        SteppingStones f = new SteppingStones();
        f.stone(39, 39, 20, 9);
        Due.is("notebook " + text, Due.notebook(f, text), due);
        Due.is("stones by " + text, f.count(1), due > 0 ? due : 1);
        Due.is("tape by " + text, f.count(5), 0);
    }

    private static void walk(String text, int due) {
        SteppingStones f = new SteppingStones();
        f.person(7, 30);
        Due.is("walk " + text, Due.walk(f, 7, 20, text, 0), due);
        Due.is("tape by " + text, f.count(5), 0);
    }

    private static void lawFirst() {
        law("i", -1000);
        law("u000000(0=1)", -2006);
        law("x(000000=1)", -2007);
        law("x(0=1);".repeat(16) + "x", -4112);
        law("x(((((((", -5007);
        law("x(!!!!!!", -5007);
        law("x([[[[[[", -5007);
        law("u[[[[[[[", -5007);
    }

    private static void lawLast() {
        law(rule(239) + "#", -1239);
        law(rule(239) + ";", -1240);
        law(rule(241).substring(0, 240), -1240);
        law(rule(232) + ";u000000", -2239);
        law(rule(231) + ";x(000000", -2239);
        law(rule(230) + ";x(1>00000", -1240);
        law(rule(229) + ";x(1>000000", -2239);
        String sixteen = "x(0=1);".repeat(15) + rule(133);
        for (char letter : "udobx".toCharArray()) {
            law(sixteen + ";" + letter, -4239);
        }
        law(sixteen + ";i", -1239);
        law(sixteen + "; ", -1239);
        law("x(0=1);".repeat(15) + rule(134) + ";", -1240);
        law(rule(231) + ";x(((((((", -5239);
        law(rule(231) + ";x((((((!", -5239);
        law(rule(231) + ";x(((((([", -5239);
        law(rule(231) + ";u[[[[[[[", -5239);
        law(rule(232) + ";x((((((", -1240);
        law(rule(232) + ";u[[[[[[", -1240);
    }

    private static void lawJustHolds() {
        law("x(0=1)", 1);
        law(rule(240), 1);
        law("x(0=1);".repeat(15) + rule(135), 16);
        law("u00000(0=1)", 1);
        law("u99999(99999=99999)", 1);
        law("x((((((0=1))))))", 1);
        law("x(!(!(!0=1)))", 1);
        law("u[[[[[[1]]]]]](!!!!!0=1)", 1);
        // A ! is open till its test ends: five in one another behind each &, never six.
        law("x(!!!!!0=1&!!!!!0=1|!!!!!0=1)", 1);
        law("x(!!!!!0=1&!!!!!!0=1)", -5016);
        // It is still open in the second E of its test, and in a C that it stands ahead of.
        law("x(!!!!!0=[1])", -5009);
        law("x(!!!!(0=1&[1]=1))", -5011);
        law("x(!!!!(0=1)&[[[[[1]]]]]=1)", 1);
        law("x((((((0=1&1=1)))))|(((((0=1))))))", 1);
    }

    private static void lawStays() {
        SteppingStones f = new SteppingStones();
        f.stone(0, 0, 1, 0);
        Due.law(f, "u3(1=1)");
        String[] faulty = {"u4(1=1", "u4(1=1);", "u4(1=1);x(((((((", "u000000", "u5(1=1);u6", "o1(1=1);z"};
        for (String text : faulty) {
            Due.law(f, text);
            Due.is("the law before stays by " + text, f.tried(1, 100), 3);
            Due.is("and goes nowhere over by " + text, f.tried(1, 200), 1);
        }
        Due.is("another one is taken in its place", Due.law(f, "u4(1=1)"), 1);
        Due.is("and does", f.tried(1, 100), 4);
        Due.is("one that never holds", Due.law(f, "x(0=1)"), 1);
        Due.is("has no u", f.tried(1, 100), 0);
    }

    private static void notebookFirst() {
        notebook("s", -1000);
        notebook("000", -2002);
        notebook("0,000", -2004);
        notebook("40,1", -3000);
        notebook("0,0", -3002);
        notebook("0,21", -3002);
        notebook(lines(40, 159) + ";9", -4160);
        notebook("0,1;0,1", -6004);
    }

    private static void notebookLast() {
        notebook(lines(39, 199) + "#", -1199);
        notebook(lines(39, 199) + ";", -1200);
        notebook(lines(40, 199) + ";", -1200);
        notebook(lines(38, 197) + ";1,", -1200);
        notebook(lines(38, 195) + ";8,4s", -1200);
        notebook(lines(38, 196) + ";000", -2199);
        notebook(lines(38, 194) + ";0,000", -2199);
        notebook(lines(38, 196) + ";0,0", -3199);
        notebook(lines(38, 197) + ";40", -3198);
        notebook(lines(38, 195) + ";0,21", -3198);
        for (char digit : "0123456789".toCharArray()) {
            notebook(lines(40, 198) + ";" + digit, -4199);
        }
        notebook(lines(40, 198) + ";,", -1199);
        notebook(lines(40, 198) + ";/", -1199);
        notebook(lines(40, 198) + ";:", -1199);
        notebook(lines(39, 196) + ";0,1", -6197);
        notebook(lines(39, 196) + ";8,4", -6197);
        notebook(lines(39, 195) + ";0,01", -6196);
    }

    private static void notebookJustHolds() {
        notebook("0,1", 1);
        notebook("39,20", 1);
        notebook("00,01s0u", 1);
        notebook("39,20s9u", 1);
        notebook(lines(40, 159), 40);
        notebook(lines(40, 200), 40);
        notebook(lines(39, 200), 39);
        notebook(lines(40, 199), 40);
        notebook("0,1;0,2;1,1", 3);
        notebook("0,1u;0,2s9;1,1s0u", 3);
        SteppingStones f = new SteppingStones();
        Due.notebook(f, "0,1;39,20s9u");
        int[][] due = {{0, 1, 0, 0}, {39, 20, 9, 1}};
        for (int i = 0; i < 2; i++) {
            for (int what = 0; what < 4; what++) {
                Due.is("stone " + i + ", what " + what, f.stoneIs(i, what), due[i][what]);
            }
        }
        Due.is("the last of 40", Due.notebook(f, lines(40, 200)), 40);
        Due.is("X of it", f.stoneIs(39, 0), 9);
        Due.is("Y of it", f.stoneIs(39, 1), 4);
        Due.is("all before are gone by one line", Due.notebook(f, "7,7"), 1);
        Due.is("told is 0 alone", f.count(1), 1);
        Due.is("none at the old place", f.at(9, 4), -2);
    }

    private static void notebookStays() {
        String[] faulty = {"x", "0,1;0,2;0,2", "0,1;0,2;40,2", "0,1;0,2;0,21", "0,1;0,2;000", "0,1;0,2;",
            lines(40, 159) + ";0"};
        for (String text : faulty) {
            SteppingStones f = new SteppingStones();
            f.stone(0, 5, 6, 7);
            f.stone(39, 8, 9, 1);
            f.under(39, true);
            Due.notebook(f, text);
            int[][] due = {{5, 6, 7, 0}, {8, 9, 1, 1}};
            for (int what = 0; what < 4; what++) {
                Due.is("0 stays by " + text, f.stoneIs(0, what), due[0][what]);
                Due.is("39 stays by " + text, f.stoneIs(39, what), due[1][what]);
            }
            Due.is("two stay by " + text, f.count(1), 2);
            Due.is("none is there by " + text, f.at(0, 1), -2);
        }
    }

    private static void walkFirst() {
        walk("x", -1000);
        walk("u000", -2003);
        walk("(((", -5002);
        walk("((u)x9)x7", -6000);
    }

    private static void walkLast() {
        walk(hops(59) + "#", -1059);
        walk(hops(59) + ",", -1060);
        walk(hops(58) + ",(", -1060);
        walk("(" + hops(59), -1060);
        walk("(" + hops(57) + ")x", -1060);
        walk("(" + hops(56) + ")x1", -1059);
        walk("(" + hops(56) + ")x0", -1059);
        walk(hops(56) + "u000", -2059);
        walk(hops(56) + ",(((", -5059);
        walk(hops(57) + ",((", -1060);
        String sixty = "((" + hops(47) + ")x9,u0)x6";
        walk(sixty + ",u", -6059);
        walk(sixty + ",x", -1059);
        String fiftyNine = "(" + hops(36) + ",(u0)x9)x5,(u0)x9";
        walk(fiftyNine + ",(u)x2", -6055);
        walk("((u0)x9,u0)x6," + hops(46), -6014);
    }

    private static void walkJustHolds() {
        walk("u", 1);
        walk(hops(60), 1);
        walk("ud".repeat(30), 1);
        walk("uo".repeat(30), 0);
        walk("u,".repeat(29) + "ud", 19);
        walk("((" + hops(49) + ")x9,u0)x6", 60);
        walk("((u0)x9,u0)x6", 60);
        walk("(u0)x2", 2);
        walk("(u0)x9", 9);
        walk("((u0)x9)x6,(u0)x6", 60);
        walk("((u0)x6)x9,u0,u0,u0,u0,u0,u0", 60);
        walk("(u0,u0,u0,u0,u0,u0,u0,u0,u0,u0,u0,u0,u0,u0,u0)x4", 60);
        walk("((u0))", 1);
        walk("((u0),(u0)),((u0),(u0))", 4);
        walk("u0o0d0b0u99d99o99b99", 1);
    }

    /** Sixty in all may be, one more may not, whatever makes it. */
    private static void walkCountsSteps() {
        walk("((u0)x9)x6,(u0)x7", -6011);
        walk("((u0)x6)x9,u0,u0,u0,u0,u0,u0,u0", -6029);
        walk("(u0,u0,u0,u0,u0,u0,u0,u0,u0,u0,u0,u0,u0,u0,u0,u0)x4", -6000);
        walk("((u0,u0)x6)x5,u0", -6014);
        walk("((u0,u0)x6)x5", 60);
        // Of an inner one first: the inner round alone is more than sixty, so is the outer one.
        walk("((u0,u0,u0,u0,u0,u0,u0)x9)x2", -6001);
        walk("(u0,(u0,u0,u0,u0,u0,u0,u0)x9)x2", -6004);
        // The inner one is not, the outer one is.
        walk("((u0,u0,u0,u0,u0,u0)x9)x2", -6000);
    }

    /** The first from the left: a later fault of another kind does not matter. */
    private static void leftmost() {
        law("u000000(((((((", -2006);
        law("x(((((((000000", -5007);
        law("x(0=1)#000000", -1006);
        law("x(0=1);".repeat(16) + "x000000", -4112);
        notebook("40,000", -3000);
        notebook("000,0", -2002);
        notebook("0,0;0,1;0,1", -3002);
        notebook("0,1;0,1;0,0", -6004);
        notebook("0,1;0,1s", -6004);
        notebook("0,1;0,100", -2008);
        walk("u000,(((", -2003);
        walk("(((u000", -5002);
        walk("((u)x9)x7,u000", -6000);
        walk("((u)x9)x1,u000", -1008);
    }

    /** Every byte that no text may begin with is what can't stand there. */
    private static void everyByte() {
        for (int sign = 0; sign < 256; sign++) {
            SteppingStones f = new SteppingStones();
            f.person(0, 5);
            boolean isDigit = sign >= '0' && sign <= '9';
            Due.bytes(f, sign);
            Due.is("law by " + sign, f.law(1), "udobx".indexOf(sign) >= 0 ? -1001 : -1000);
            Due.bytes(f, sign);
            Due.is("notebook by " + sign, f.notebook(1), isDigit ? -1001 : -1000);
            Due.bytes(f, sign);
            int due = "udob".indexOf(sign) >= 0 ? (sign == 'o' ? 0 : 1) : sign == '(' ? -1001 : -1000;
            Due.is("walk by " + sign, f.walk(0, 20, 1, 0), due);
            Due.bytes(f, 'u', '1', '(', sign);
            Due.is("law by u1( and " + sign, f.law(4), isDigit || "ixysenrg![(".indexOf(sign) >= 0 ? -1004 : -1003);
        }
    }
}
