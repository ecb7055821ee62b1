/** Promises 7, 9, 10 and 23: what the law does to the stones. */
public final class NightsTest {
    public static void main(String[] args) {
        noLaw();
        arguments();
        moves();
        bounds();
        taken();
        letters();
        drawn();
        arithmetic();
        refused();
        choices();
        sinking();
        order();
        lastNight();
        firstNight();
        Due.end();
    }

    private static SteppingStones one(int x, int y, int slippery) {
        SteppingStones f = new SteppingStones();
        f.stone(0, x, y, slippery);
        return f;
    }

    private static void noLaw() {
        SteppingStones f = one(5, 5, 0);
        f.under(0, true);
        Due.is("nothing moves", f.nights(60), 0);
        Due.is("60 went by", f.count(0), 60);
        Due.is("without an x none is under", f.count(2), 0);
        SteppingStones empty = new SteppingStones();
        Due.is("no stones", empty.nights(5), 0);
        Due.is("no draws", empty.count(6), 1);
    }

    private static void arguments() {
        SteppingStones f = one(5, 5, 0);
        int[] wrong = {0, -1, 61, Integer.MIN_VALUE, Integer.MAX_VALUE};
        for (int n : wrong) {
            Due.is("nights(" + n + ")", f.nights(n), -1);
            Due.is("tried(" + n + ", 0)", f.tried(n, 0), -100000);
        }
        int[] whats = {-1, 4, 99, 101, 139, 140, 199, 201, 239, 240, 300, Integer.MIN_VALUE, Integer.MAX_VALUE};
        for (int what : whats) {
            Due.is("tried(1, " + what + ")", f.tried(1, what), -100000);
        }
        Due.is("tried x", f.tried(60, 100), 5);
        Due.is("tried y", f.tried(60, 200), 5);
        Due.is("no night went by", f.count(0), 0);
        Due.is("no draw", f.count(6), 1);
        f.stone(39, 7, 8, 0);
        Due.is("tried x of 39", f.tried(1, 139), 7);
        Due.is("tried y of 39", f.tried(1, 239), 8);
    }

    private static void moves() {
        SteppingStones f = one(5, 5, 0);
        f.stone(1, 20, 10, 0);
        Due.law(f, "u5(i=0);d2(i=0);o3(i=1);b4(i=1);u9(i=0);o0(i=0)");
        Due.is("tried 0", f.tried(3, 0), 6);
        Due.is("tried 1", f.tried(3, 1), 0);
        Due.is("tried 3", f.tried(3, 3), 9);
        Due.is("tried x", f.tried(3, 100), 14);
        Due.is("tried y", f.tried(3, 201), 7);
        Due.is("nights", f.nights(3), 6);
        Due.is("x", f.stoneIs(0, 0), 14);
        Due.is("y", f.stoneIs(0, 1), 5);
        Due.is("x of 1", f.stoneIs(1, 0), 20);
        Due.is("y of 1", f.stoneIs(1, 1), 7);
        Due.is("night", f.count(0), 3);
        Due.law(f, "d3(i=i)");
        Due.is("down", f.tried(2, 3), -12);
    }

    private static void bounds() {
        SteppingStones f = one(5, 5, 0);
        Due.law(f, "u99999(i=0)");
        Due.is("nine at most", f.tried(1, 100), 14);
        Due.is("the ford's bound", f.tried(60, 100), 39);
        Due.is("moves till then", f.tried(60, 0), 4);
        Due.is("no place was taken", f.tried(60, 1), 0);
        Due.law(f, "u0-5(i=0);d1(i=0)");
        Due.is("0 at least", f.tried(1, 100), 4);
        Due.is("down to 0", f.tried(60, 100), 0);
        Due.law(f, "o9(i=0)");
        Due.is("over to 20", f.tried(2, 200), 20);
        Due.law(f, "b9(i=0)");
        Due.is("back to 1", f.tried(1, 200), 1);
        Due.law(f, "b9(i=0);o9(i=0);u1(i=0)");
        Due.is("one goes o less b", f.tried(1, 200), 5);
        Due.is("and moves by u", f.tried(1, 0), 1);
    }

    private static void taken() {
        SteppingStones f = one(5, 5, 0);
        f.stone(1, 7, 5, 0);
        f.stone(2, 9, 5, 0);
        f.under(1, true);
        Due.law(f, "u2(i<2);x(e=1)");
        Due.is("both stay", f.tried(1, 1), 2);
        Due.is("none moves", f.tried(1, 0), 0);
        Due.law(f, "u2(i>0);x(e=1)");
        Due.is("1 asks ahead of 2", f.tried(1, 1), 1);
        Due.is("2 moves", f.tried(1, 0), 1);
        Due.is("then 1 moves, too", f.tried(2, 101), 9);
        Due.is("stayed once", f.tried(2, 1), 1);
        Due.is("over others", ofLaw(f, "u9(i=0)", 100), 14);
        Due.law(f, "d9(i=i)");
        Due.is("0 is at the bound ahead of 1 and 2", f.tried(1, 1), 2);
    }

    private static int ofLaw(SteppingStones f, String law, int what) {
        Due.law(f, law);
        return f.tried(1, what);
    }

    /** Each letter's value, seen as the X that the stone goes to. */
    private static void letters() {
        SteppingStones f = new SteppingStones();
        f.stone(7, 8, 6, 5);
        f.stone(3, 9, 7, 0);
        f.stone(9, 10, 6, 0);
        f.under(9, true);
        f.stone(10, 8, 9, 0);
        f.under(7, true);
        Due.is("i", ofLaw(f, "u1(i=7)", 107), 9);
        Due.is("x", ofLaw(f, "u1(x=8&i=7)", 107), 9);
        Due.is("y", ofLaw(f, "uy(i=7)", 107), 14);
        Due.is("s", ofLaw(f, "us(i=7)", 107), 13);
        Due.is("e", ofLaw(f, "ue+1(i=7)", 107), 8);
        Due.is("e by o", ofLaw(f, "oe+1(i=7)", 207), 8);
        Due.is("n", ofLaw(f, "on(i=7)", 207), 8);
        Due.is("n and no other letter", ofLaw(f, "on(1=1)", 207), 7);
        Due.is("n in a test alone", ofLaw(f, "o1(n=2)", 203), 8);
        Due.is("g", ofLaw(f, "og+1(i=7)", 207), 7);
        f.take(10);
        Due.law(f, "u0(i=i)");
        f.nights(60);
        f.nights(43);
        Due.is("g modulo 100", ofLaw(f, "og(i=7)", 207), 9);
        Due.law(f, "og-3(i=7)");
        Due.is("g grows", f.tried(4, 207), 12);
    }

    private static void drawn() {
        SteppingStones f = new SteppingStones();
        f.stone(0, 0, 1, 0);
        f.stone(5, 0, 2, 0);
        f.stone(6, 0, 3, 0);
        Due.law(f, "ur(i=i)");
        int x = 1;
        int[] at = new int[3];
        for (int night = 0; night < 3; night++) {
            for (int i = 0; i < 3; i++) {
                x = (25173 * x + 13849) % 65536;
                at[i] += x % 10;
            }
        }
        Due.is("x of 0", f.tried(3, 100), at[0]);
        Due.is("x of 5", f.tried(3, 105), at[1]);
        Due.is("x of 6", f.tried(3, 106), at[2]);
        f.nights(3);
        Due.is("X", f.count(6), x);
        Due.is("one draw serves all letters", ofLaw(f, "ur(i=i);dr(i=i)", 0), 0);
    }

    private static int amount(String sum) {
        SteppingStones f = one(0, 10, 0);
        Due.is("law of " + sum, Due.law(f, "u" + sum + "(i=i)"), 1);
        return f.tried(1, 100);
    }

    private static void arithmetic() {
        Due.is("1+2*3", amount("1+2*3"), 7);
        Due.is("[1+2]*3", amount("[1+2]*3"), 9);
        Due.is("9-3-2", amount("9-3-2"), 4);
        Due.is("9-[3-2]", amount("9-[3-2]"), 8);
        Due.is("17/2/2", amount("17/2/2"), 4);
        Due.is("2*7%4", amount("2*7%4"), 2);
        Due.is("7%4*2", amount("7%4*2"), 6);
        Due.is("2+3*2-1", amount("2+3*2-1"), 7);
        Due.is("8-2*3+1", amount("8-2*3+1"), 3);
        Due.is("1+2*3*1-4/2", amount("1+2*3*1-4/2"), 5);
        Due.is("[0-7]/2 goes to 0", amount("[0-7]/2+9"), 6);
        Due.is("[0-7]%4", amount("[0-7]%4+9"), 6);
        Due.is("32 bits", amount("99999*99999%99999-79500"), 7);
        Due.is("wraps around", amount("65536*32768/65536+32768+5"), 5);
        Due.is("the least by -1", amount("65536*32768/[0-1]/65536+32768+6"), 6);
        Due.is("the least modulo -1", amount("65536*32768%[0-1]+3"), 3);
        Due.is("deep", amount("1+1*[1+1*[1+1*[1+1*[1+1*[1+1*[1+1]]]]]]".replace("[1+1]]", "2]")), 8);
    }

    private static void refused() {
        Due.is("1/0", amount("1/0"), 0);
        Due.is("1%0", amount("1%0"), 0);
        Due.is("5+1/[i-i]", amount("5+1/[i-i]"), 0);
        Due.is("0*[1/0]+5", amount("0*[1/0]+5"), 0);
        SteppingStones f = one(0, 10, 0);
        Due.is("a refused C does not hold", ofLaw(f, "u3(1/0=0);u5(i=i)", 100), 5);
        Due.is("nor by a !", ofLaw(f, "u3(!1/0=0);u5(i=i)", 100), 5);
        Due.is("nor inside", ofLaw(f, "u3(!(!(1=1&1%0=1)));u5(i=i)", 100), 5);
        Due.is("nor by an or behind it", ofLaw(f, "u3(1/0=0|1=1);u5(i=i)", 100), 5);
        Due.is("an or ahead of it", ofLaw(f, "u3(1=1|1/0=0);u5(i=i)", 100), 3);
        Due.is("an and ahead of it", ofLaw(f, "u3(1=0&1/0=0|1=1);u5(i=i)", 100), 3);
        Due.is("an and that goes on", ofLaw(f, "u3(1=1&1/0=0|1=1);u5(i=i)", 100), 5);
        Due.is("an E refused: 0, no other rule", ofLaw(f, "u3/0(i=i);u5(i=i)", 100), 0);
        Due.is("an x refused", ofLaw(f, "x(1/0=0)", 2), 0);
        Due.is("any x will do", ofLaw(f, "x(1/0=0);x(i=1);x(i=0)", 2), 1);
    }

    private static int holds(String choice) {
        SteppingStones f = one(3, 10, 0);
        Due.is("law of " + choice, Due.law(f, "x(" + choice + ")"), 1);
        return f.tried(1, 2);
    }

    private static void choices() {
        String yes = "1=1";
        String no = "1=2";
        for (int bits = 0; bits < 16; bits++) {
            boolean a = (bits & 1) != 0;
            boolean b = (bits & 2) != 0;
            boolean c = (bits & 4) != 0;
            boolean d = (bits & 8) != 0;
            String[] t = {a ? yes : no, b ? yes : no, c ? yes : no, d ? yes : no};
            Due.is("a&b|c&d " + bits, holds(t[0] + "&" + t[1] + "|" + t[2] + "&" + t[3]) != 0, a && b || c && d);
            Due.is("a|b&c|d " + bits, holds(t[0] + "|" + t[1] + "&" + t[2] + "|" + t[3]) != 0, a || b && c || d);
            Due.is("(a|b)&!(c|d) " + bits, holds("(" + t[0] + "|" + t[1] + ")&!(" + t[2] + "|" + t[3] + ")") != 0,
                (a || b) && !(c || d));
            Due.is("!a&b|!!c&!d " + bits, holds("!" + t[0] + "&" + t[1] + "|!!" + t[2] + "&!" + t[3]) != 0,
                !a && b || c && !d);
            Due.is("a&b&c&d " + bits, holds(String.join("&", t)) != 0, a && b && c && d);
            Due.is("a|b|c|d " + bits, holds(String.join("|", t)) != 0, a || b || c || d);
            Due.is("!(a&(b|c)|d) " + bits, holds("!(" + t[0] + "&(" + t[1] + "|" + t[2] + ")|" + t[3] + ")") != 0,
                !(a && (b || c) || d));
        }
        Due.is("x<4", holds("x<4"), 1);
        Due.is("x<3", holds("x<3"), 0);
        Due.is("x>2", holds("x>2"), 1);
        Due.is("x>3", holds("x>3"), 0);
        Due.is("x+1=2*2", holds("x+1=2*2"), 1);
    }

    private static void sinking() {
        SteppingStones f = one(5, 5, 0);
        f.stone(1, 20, 5, 0);
        f.under(1, true);
        Due.law(f, "x(e=0)");
        Due.is("e is as the night began", f.tried(1, 2), 1);
        f.nights(1);
        Due.is("0 is under", f.stoneIs(0, 3), 1);
        Due.is("1 is dry", f.stoneIs(1, 3), 0);
        Due.law(f, "u3(i=0);x(x=8)");
        Due.is("x is asked behind the move", f.tried(1, 2), 1);
        Due.law(f, "u3(x=5);x(x=5)");
        Due.is("it has gone from 5", f.tried(1, 2), 0);
        f.stone(2, 7, 5, 0);
        Due.law(f, "u1(i=0);x(n=1&i=0)");
        Due.is("n behind the move", f.tried(1, 2), 1);
        Due.law(f, "u1(r=r);x(r=2)");
        f.seed(1);
        int due = 0;
        int x = 1;
        for (int i = 0; i < 3; i++) {
            x = (25173 * x + 13849) % 65536;
            due += x % 10 == 2 ? 1 : 0;
        }
        Due.is("the same draw", f.tried(1, 2), due);
    }

    private static void order() {
        SteppingStones f = one(5, 5, 0);
        f.stone(1, 7, 5, 0);
        Due.law(f, "u3(i=0);on(i=1)");
        Due.is("1 asks for n when 0 has gone to 8", f.tried(1, 201), 6);
        f.stone(0, 8, 5, 0);
        Due.is("none is close when 0 has gone to 11", f.tried(1, 201), 5);
        Due.law(f, "o3(i=1);un(i=0)");
        Due.is("0 asks ahead of 1", f.tried(1, 100), 9);
        Due.law(f, "u3(i=i);o2(x=8);b1(x=11)");
        Due.is("o is asked where the stone began", f.tried(1, 200), 7);
    }

    private static void lastNight() {
        SteppingStones f = one(0, 1, 0);
        for (int k = 0; k < 166; k++) {
            f.nights(60);
        }
        Due.is("9960", f.count(0), 9960);
        Due.law(f, "u1(i=i);x(g=98)");
        f.seed(1);
        Due.is("tried as many as can", f.tried(60, 0), 39);
        Due.is("as many as can", f.nights(60), 39);
        Due.is("9999", f.count(0), 9999);
        Due.is("under by the last one", f.count(2), 1);
        int x = f.count(6);
        Due.is("none goes by", f.nights(60), 0);
        Due.is("9999 still", f.count(0), 9999);
        Due.is("X stays", f.count(6), x);
        Due.is("still under", f.count(2), 1);
        Due.is("tried none", f.tried(60, 2), 1);
        f.person(0, 20);
        Due.is("no first night", f.firstNight(0), -2);
    }

    private static void firstNight() {
        SteppingStones f = one(5, 10, 0);
        f.person(0, 11);
        f.person(1, 10);
        f.person(2, 21);
        Due.is("now", f.firstNight(0), 0);
        Due.is("not in 60", f.firstNight(1), -2);
        Due.is("no stone needed", f.firstNight(2), 0);
        Due.is("no such one", f.firstNight(3), -1);
        Due.is("p -1", f.firstNight(-1), -1);
        Due.is("p 8", f.firstNight(8), -1);
        Due.law(f, "x(g<59)");
        f.under(0, true);
        Due.is("behind 60", f.firstNight(0), 60);
        Due.law(f, "x(g<60)");
        Due.is("not behind 60", f.firstNight(0), -2);
        Due.is("nothing is changed", f.stoneIs(0, 3), 1);
        Due.is("no night", f.count(0), 0);
        Due.is("no draw", f.count(6), 1);
        Due.law(f, "x(g<5|g>6)");
        Due.is("behind 6", f.firstNight(0), 6);
        f.nights(2);
        Due.is("behind 4 then", f.firstNight(0), 4);
    }
}
