/** Promises 7, 8 and 24: the three languages, with their faults. */
public final class TextsTest {
    public static void main(String[] args) {
        lawArguments();
        lawFaults();
        lawRules();
        notebookArguments();
        notebookFaults();
        notebookStones();
        walkArguments();
        walkFaults();
        walkRounds();
        walkSteps();
        Due.end();
    }

    private static void lawArguments() {
        SteppingStones f = new SteppingStones();
        Due.is("law(1) of an empty tape", f.law(1), -1);
        Due.text(f, "u1(i=0)");
        Due.is("law(0)", f.law(0), -1);
        Due.is("law(-1)", f.law(-1), -1);
        Due.is("law(21) of 20", f.law(21), -1);
        Due.is("the tape stays", f.count(5), 20);
        Due.is("law", f.law(7), 1);
        Due.is("the tape is empty", f.count(5), 0);
        for (int k = 0; k < 13; k++) {
            f.feed(0, 0, 0, 0, 0);
        }
        Due.is("law(241)", f.law(241), -1);
        Due.is("the tape stays, too", f.count(5), 260);
        Due.is("law(240)", f.law(240), -1000);
        Due.is("empty by a fault", f.count(5), 0);
        Due.is("the law before stays", f.count(4), 1);
        f.stone(0, 0, 1, 0);
        f.nights(3);
        Due.is("moved by the law that stayed", f.stoneIs(0, 0), 3);
        Due.is("240 bytes", Due.law(f, "u10(" + "1+".repeat(116) + "1>0)"), 1);
        f.nights(1);
        Due.is("moved by the long law", f.stoneIs(0, 0), 12);
    }

    private static void lawFault(String text, int due) {
        SteppingStones f = new SteppingStones();
        Due.is("law " + text, Due.law(f, text), due);
        Due.is("rules of " + text, f.count(4), Math.max(due, 0));
    }

    private static void lawFaults() {
        lawFault("z(i=0)", -1000);
        lawFault("u", -1001);
        lawFault("u(i=0)", -1001);
        lawFault("x1(i=0)", -1001);
        lawFault("x", -1001);
        lawFault("u1", -1002);
        lawFault("u1;", -1002);
        lawFault("u1+", -1003);
        lawFault("u1+(i=0)", -1003);
        lawFault("u-1(i=0)", -1001);
        lawFault("u1(", -1003);
        lawFault("u1()", -1003);
        lawFault("u1(i", -1004);
        lawFault("u1(i)", -1004);
        lawFault("u1(i=", -1005);
        lawFault("u1(i=0", -1006);
        lawFault("u1(i=0)u", -1007);
        lawFault("u1(i=0);", -1008);
        lawFault("u1(i=0);z", -1008);
        lawFault("u1(i==0)", -1005);
        lawFault("u1(i=0=0)", -1006);
        lawFault("u1(i=0&)", -1007);
        lawFault("u1(i=0&|i=1)", -1007);
        lawFault("u1(!)", -1004);
        lawFault("u1(!i)", -1005);
        lawFault("u1((i=0)", -1008);
        lawFault("u1((i+1)=0)", -1007);
        lawFault("u[1(i=0)", -1003);
        lawFault("u[](i=0)", -1002);
        lawFault("u1](i=0)", -1002);
        lawFault("u[1)(i=0)", -1003);
        lawFault("u1 (i=0)", -1002);
        lawFault("uz(i=0)", -1001);
        lawFault("uu(i=0)", -1001);
        lawFault("u12345(i=0)", 1);
        lawFault("u123456(i=0)", -2006);
        lawFault("u000000(i=0)", -2006);
        lawFault("u1(i=123456)", -2010);
        lawFault("ui1(i=0)", -1002);
        lawFault("u1i(i=0)", -1002);
        lawFault("x((((((i=i))))))", 1);
        lawFault("x(((((((i=i)))))))", -5007);
        lawFault("x(!!!!!i=i)", 1);
        lawFault("x(!!!!!!i=i)", -5007);
        lawFault("x([[[[[i]]]]]=i)", 1);
        lawFault("x([[[[[[i]]]]]]=i)", -5007);
        lawFault("x(![(i=i))", -1004);
        lawFault("x(!(![!i=i))", -1006);
        lawFault("x(!(!([i]=i)))", 1);
        lawFault("x(!(!([[i]]=i)))", -5007);
        lawFault("x(!(!(![i]=i)))", -5007);
        lawFault("x(!(!(!i=[i])))", -5009);
        lawFault("x(!(!(!i=i&[i]=i)))", 1);
        lawFault("x(!(!(!i=i&[[i]]=i)))", -5012);
        lawFault("x(!!!!!i=i&!!!!!i=i)", 1);
        lawFault("x(!i=i&!i=i&!i=i&!i=i&!i=i&!i=i&!i=i)", 1);
        lawFault("u[[[[[[1]]]]]]((((((i=i))))))", 1);
        lawFault("u[[[[[[[1]]]]]]](i=i)", -5007);
        lawFault("u[[[[[[1]]]]]]*[[[[[[1]]]]]](i=i)", 1);
        String sixteen = "x(0=1)" + ";x(0=1)".repeat(15);
        lawFault(sixteen, 16);
        lawFault(sixteen + ";x(0=1)", -4112);
        lawFault(sixteen + ";u", -4112);
        lawFault(sixteen + ";z", -1112);
        lawFault(sixteen + ";", -1112);
        lawFault("\u00ff", -1000);
    }

    private static void lawRules() {
        SteppingStones f = new SteppingStones();
        Due.is("three rules", Due.law(f, "u1(i=0);x(r>1);o1+2*3(y<9|!x=2&e=1)"), 3);
        Due.is("count", f.count(4), 3);
        Due.is("two in place of them", Due.law(f, "d1(i=0);b2(i=0)"), 2);
        Due.is("count then", f.count(4), 2);
        Due.is("a fault", Due.law(f, "d1(i=0);b2(i=0)!"), -1015);
        Due.is("count as it was", f.count(4), 2);
    }

    private static void notebookArguments() {
        SteppingStones f = new SteppingStones();
        Due.is("notebook(1) of none", f.notebook(1), -1);
        Due.text(f, "5,3");
        Due.is("notebook(0)", f.notebook(0), -1);
        Due.is("notebook(21) of 20", f.notebook(21), -1);
        Due.is("stays", f.count(5), 20);
        Due.is("notebook", f.notebook(3), 1);
        Due.is("empty", f.count(5), 0);
        for (int k = 0; k < 13; k++) {
            f.feed(0, 0, 0, 0, 0);
        }
        Due.is("notebook(201)", f.notebook(201), -1);
        Due.is("stays, too", f.count(5), 260);
        Due.is("notebook(200)", f.notebook(200), -1000);
        Due.is("empty by a fault", f.count(5), 0);
        Due.is("stones as they are", f.stoneIs(0, 0), 5);
    }

    private static void notebookFault(String text, int due) {
        SteppingStones f = new SteppingStones();
        f.stone(7, 33, 17, 4);
        f.under(7, true);
        Due.is("notebook " + text, Due.notebook(f, text), due);
        Due.is("stones of " + text, f.count(1), due > 0 ? due : 1);
        Due.is("stone 7 of " + text, f.stoneIs(7, 3), due > 7 ? 0 : due > 0 ? -1 : 1);
    }

    private static void notebookFaults() {
        notebookFault(",", -1000);
        notebookFault("5", -1001);
        notebookFault("5;", -1001);
        notebookFault("5,", -1002);
        notebookFault("5,,", -1002);
        notebookFault("5,3;", -1004);
        notebookFault("5,3;;", -1004);
        notebookFault("5,3,", -1003);
        notebookFault("5,3 ", -1003);
        notebookFault("123,4", -2002);
        notebookFault("400,4", -2002);
        notebookFault("5,200", -2004);
        notebookFault("40,4", -3000);
        notebookFault("40", -3000);
        notebookFault("40x", -3000);
        notebookFault("5,0", -3002);
        notebookFault("5,00", -3002);
        notebookFault("5,21", -3002);
        notebookFault("5,21x", -3002);
        notebookFault("39,20", 1);
        notebookFault("00,01", 1);
        notebookFault("5,3;5,3", -6004);
        notebookFault("5,3;5,3x", -6004);
        notebookFault("5,3;5,333", -2008);
        notebookFault("5,3;6,3;05,03u", -6008);
        notebookFault("5,3s", -1004);
        notebookFault("5,3sx", -1004);
        notebookFault("5,3s55", -1005);
        notebookFault("5,3us5", -1004);
        notebookFault("5,3uu", -1004);
        notebookFault("5,3s5s5", -1005);
        notebookFault("5,3s5u", 1);
        StringBuilder forty = new StringBuilder();
        for (int i = 0; i < 40; i++) {
            forty.append(i > 0 ? ";" : "").append(i % 10).append(',').append(1 + i / 10);
        }
        notebookFault(forty.toString(), 40);
        notebookFault(forty + ";9,9", -4160);
        notebookFault(forty + ";9", -4160);
        notebookFault(forty + ";0,1", -4160);
        notebookFault(forty + ";x", -1160);
        notebookFault(forty + ";", -1160);
    }

    private static void notebookStones() {
        SteppingStones f = new SteppingStones();
        f.stone(30, 1, 1, 1);
        f.nights(2);
        f.seed(99);
        Due.is("notebook", Due.notebook(f, "5,3;07,14s9;39,20u;0,1s4u"), 4);
        int[][] due = {{5, 3, 0, 0}, {7, 14, 9, 0}, {39, 20, 0, 1}, {0, 1, 4, 1}};
        for (int i = 0; i < 4; i++) {
            for (int what = 0; what < 4; what++) {
                Due.is("stone " + i + " what " + what, f.stoneIs(i, what), due[i][what]);
            }
        }
        Due.is("in place of all", f.stoneIs(30, 0), -1);
        Due.is("the night stays", f.count(0), 2);
        Due.is("X stays", f.count(6), 99);
    }

    private static void walkArguments() {
        SteppingStones f = new SteppingStones();
        f.person(2, 5);
        Due.text(f, "u");
        Due.is("p 1", f.walk(1, 5, 1, 0), -1);
        Due.is("p -1", f.walk(-1, 5, 1, 0), -1);
        Due.is("p 8", f.walk(8, 5, 1, 0), -1);
        Due.is("x -1", f.walk(2, -1, 1, 0), -1);
        Due.is("x 40", f.walk(2, 40, 1, 0), -1);
        Due.is("n 0", f.walk(2, 5, 0, 0), -1);
        Due.is("n 21", f.walk(2, 5, 21, 0), -1);
        Due.is("what -1", f.walk(2, 5, 1, -1), -1);
        Due.is("what 4", f.walk(2, 5, 1, 4), -1);
        Due.is("stays", f.count(5), 20);
        Due.is("walk", f.walk(2, 5, 1, 2), 6);
        Due.is("empty", f.count(5), 0);
        for (int k = 0; k < 4; k++) {
            f.feed(0, 0, 0, 0, 0);
        }
        Due.is("n 61", f.walk(2, 5, 61, 0), -1);
        Due.is("n 60", f.walk(2, 5, 60, 0), -1000);
        Due.is("empty by a fault", f.count(5), 0);
    }

    private static void walkFault(String text, int due) {
        SteppingStones f = new SteppingStones();
        f.person(0, 5);
        Due.is("walk " + text, Due.walk(f, 0, 20, text, 0), due);
    }

    private static void walkFaults() {
        walkFault("x", -1000);
        walkFault(",", -1000);
        walkFault(")", -1000);
        walkFault("5", -1000);
        walkFault("u,", -1002);
        walkFault("u,,", -1002);
        walkFault("u)", -1001);
        walkFault("u(", -1001);
        walkFault("ux2", -1001);
        walkFault("u123", -2003);
        walkFault("u000", -2003);
        walkFault("u12u345", -2006);
        walkFault("(", -1001);
        walkFault("()", -1001);
        walkFault("(u", -1002);
        walkFault("(u,", -1003);
        walkFault("(u,)", -1003);
        walkFault("(u)u", -1003);
        walkFault("(u)2", -1003);
        walkFault("(u)x", -1004);
        walkFault("(u)x1", -1004);
        walkFault("(u)x0", -1004);
        walkFault("(u)xu", -1004);
        walkFault("(u)x22", -1005);
        walkFault("(u)x2x2", -1005);
        walkFault("(u)(d)", -1003);
        walkFault("((u))", 1);
        walkFault("(((u)))", -5002);
        walkFault("(u,(u,(u)))", -5006);
        walkFault("((u),(d),(u))", 3);
        walkFault("((u(", -1003);
        walkFault("((o)x9)x7", -6000);
        walkFault("((u,d)x9)x4", -6000);
        walkFault("((u,d)x9)x3", 54);
        walkFault("((u,d,u,d,u,d,u)x9)x2", -6001);
        walkFault("((u,d,u,d,u,d,u)x9", -6001);
        walkFault("((u,d,u,d,u,d,u)x9!", -6001);
        walkFault("((u,d,u,d,u,d,u)x", -1017);
        String sixty = "((u0)x9,u0)x6";
        walkFault(sixty, 60);
        walkFault(sixty + ",u", -6014);
        walkFault(sixty + ",u!", -6014);
        walkFault(sixty + ",u123", -2017);
        walkFault(sixty + ",(u", -6015);
        walkFault(sixty + ",!", -1014);
        String fiftyFour = "((u0)x9)x6";
        walkFault(fiftyFour + ",(u0)x6", 60);
        walkFault(fiftyFour + ",(u0)x7", -6011);
        walkFault(fiftyFour + ",((u0)x7)", -6012);
        walkFault(fiftyFour + ",((u0)x4)x2", -6011);
        walkFault(fiftyFour + ",((u0)x3)x2", 60);
        walkFault(fiftyFour + ",u,u,u,u,u,u,u", -6023);
        walkFault("u,", -1002);
        walkFault("u ", -1001);
        walkFault("U", -1000);
    }

    private static void walkRounds() {
        SteppingStones f = new SteppingStones();
        f.person(0, 5);
        Due.is("rounds", Due.walk(f, 0, 0, "(u2,(d)x2,u3)x4,u", 2), 13);
        Due.is("their steps", Due.walk(f, 0, 0, "(u2,(d)x2,u3)x4,u", 0), 17);
        Due.is("hops in one step", Due.walk(f, 0, 10, "u9d12u1,uu", 2), 10);
        Due.is("a step is what it goes in all", Due.walk(f, 0, 10, "u9d9u99d99", 0), 1);
        Due.is("99", Due.walk(f, 0, 10, "u99", 0), 0);
    }

    private static void walkSteps() {
        SteppingStones f = new SteppingStones();
        f.person(0, 5);
        f.person(1, 21);
        f.stone(0, 10, 4, 0);
        f.stone(1, 13, 8, 0);
        f.stone(2, 13, 17, 0);
        Due.is("3 and 4 are 5", Due.walk(f, 0, 10, "o4,u3o4", 0), 2);
        Due.is("X of it", Due.walk(f, 0, 10, "o4,u3o4", 2), 13);
        Due.is("Y of it", Due.walk(f, 0, 10, "o4,u3o4", 1), 8);
        Due.is("too far", Due.walk(f, 0, 9, "u1o4,u3o5", 0), 1);
        Due.is("into the water", Due.walk(f, 0, 10, "o4,o1,b1", 0), 1);
        Due.is("back to the bank", Due.walk(f, 0, 10, "o4,b5,u1,d1o4,u3o4", 0), 5);
        Due.is("Y is 0 then", Due.walk(f, 0, 10, "o4,b5", 1), 0);
        Due.is("off the bank", Due.walk(f, 0, 39, "u1", 0), 0);
        Due.is("off the bank's other end", Due.walk(f, 0, 3, "d4", 0), 0);
        Due.is("along to 39", Due.walk(f, 0, 35, "u4", 2), 39);
        Due.is("over at X 39", Due.walk(f, 1, 39, "o21", 3), 1);
        Due.is("along to the end", Due.walk(f, 0, 4, "d4", 2), 0);
        Due.is("at once across", Due.walk(f, 1, 0, "o21,u", 3), 1);
        Due.is("the walk ends there", Due.walk(f, 1, 0, "o21,u,u,u", 0), 1);
        Due.is("Y is 21 then", Due.walk(f, 1, 0, "o4,o5", 1), 0);
        Due.is("beyond the far bank", Due.walk(f, 1, 13, "o17,o9", 1), 21);
        Due.is("beyond it, X off", Due.walk(f, 1, 13, "o17,o9u27", 0), 1);
        Due.is("not across", Due.walk(f, 1, 13, "o17", 3), 0);
        f.under(0, true);
        Due.is("one under", Due.walk(f, 0, 10, "o4", 0), 0);
        f.under(0, false);
        Due.is("standing still on a stone", Due.walk(f, 0, 10, "o4,u0", 0), 2);
    }
}
