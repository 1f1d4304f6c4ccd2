/** Each promise of the document by hand-worked answers: ordinary inputs, edges, wrong inputs. */
public final class PromisesTest extends Checks {
    public static void main(String[] args) {
        about("promise 1");
        newObject();
        about("promise 2");
        tape();
        about("promise 3");
        texts();
        about("promise 4");
        faults();
        lawFaults();
        about("promise 5");
        names();
        about("promise 6");
        looks();
        about("promise 7");
        cells();
        about("promise 8");
        laws();
        about("promise 9");
        times();
        walkersGo();
        planks();
        sideways();
        gales();
        bounds();
        about("promise 10");
        past();
        about("promise 11");
        fatOnes();
        about("promise 12");
        offs();
        about("promise 13");
        blows();
        about("promise 14");
        strikes();
        about("promise 15");
        highs();
        about("promise 16");
        creaks();
        about("promise 17");
        lies();
        about("promise 18");
        fewest();
        about("promise 19");
        forbidden();
        about("promise 20");
        cancels();
        about("promise 21");
        owes();
        about("promise 22");
        pumps();
        about("promise 23");
        keepers();
        about("promises 24 to 26");
        groans();
        knowing();
        about("promises 27 to 29");
        beginnings();
        about("promise 30");
        fits();
        about("promise 31");
        galesDrawn();
        about("promise 32");
        tried();
        about("promise 33");
        undone();
        about("promises 34 and 35");
        images();
        about("promise 36");
        counts();
        finish("all promises hold");
    }

    private static void newObject() {
        WalkingBridge x = new WalkingBridge();
        int[] counts = {8, 0, 0, 0, 0, 0, 0, 0, 0, 0, 0, 0, 0, 0};
        for (int what = 0; what < counts.length; what++) {
            due("count(" + what + ")", x.count(what), counts[what]);
        }
        due("fault(0)", x.fault(0), 0);
        due("fault(1)", x.fault(1), NONE);
        due("back()", x.back(), NONE);
        due("undo()", x.undo(), NONE);
        due("text(1)", x.text(1), -2);
        due("cell(7, 4)", x.cell(7, 4), 5);
        due("strike(0, 16)", x.strike(0, 16), 16);
        x.beats(2);
        states("up", x, 24, 4, 0);
        due("feed", x.feed(0, 0, 0, 0, 0), 20);
        x.groan(0, 0, 0, true);
        due("all known", x.count(8), 1);
        WalkingBridge side = told("calm 0;walker a 1 9 0 stay 3;law side 16;");
        side.beats(2);
        states("side", side, 0, 0, 4, 24, 4, 0, 0, 0);
    }

    private static void tape() {
        WalkingBridge x = new WalkingBridge();
        for (int i = 1; i <= 35; i++) {
            due("feed " + i, x.feed(0x20202020, 0x0a0a0a0a, 0x200a200a, 0x20202020, 0x20202020), 20 * i);
        }
        due("feed 36", x.feed(0, 0, 0, 0, 0), NONE);
        due("text(701)", x.text(701), -2);
        due("text(700)", x.text(700), 0);
        due("feed again", x.feed(0x63616c6d, 0x20313b68, 0x65617420, 0x323b6761, 0x6c652033), 20);
        due("feed again", x.feed(0x3b000000, 0, 0, 0, 0), 40);
        due("text(21)", x.text(21), 3);
        due("cell(0, 4)", x.cell(0, 4), 1);
        due("the high byte first", x.feed(0x20ff2020, 0, 0, 0, 0), 20);
        due("text(4)", x.text(4), NONE);
        due("its place", x.fault(1), 1);
    }

    private static void texts() {
        WalkingBridge x = told("bridge 3 0 0;calm 0;gale 5;walker a 10 1 0 right;fat f 1 20;sleep s 2 9;may m weight+1;");
        x.blow(true);
        x.beats(2);
        x.groan(0, 0, 1, true);
        x.known(1);
        x.keep();
        x.strike(1, 5);
        due("text(-1)", x.text(-1), -2);
        due("text(1)", x.text(1), -2);
        due("nothing changed", x.count(6), 2);
        due("feed", feed(x, "calm 1;bridge 5 2 3;gal"), 40);
        due("text(41)", x.text(41), -2);
        due("the tape stays", x.feed(0, 0, 0, 0, 0), 60);
        due("text(20)", x.text(20), 2);
        due("the tape is empty", x.text(1), -2);
        int[] counts = {5, 0, 0, 0, 0, 0, 0, 0, 0, 0, 0, 0, 0, 0};
        for (int what = 0; what < counts.length; what++) {
            due("count(" + what + ")", x.count(what), counts[what]);
        }
        due("no image", x.back(), NONE);
        due("nothing kept of the past", x.was(0), NONE);
        x.groan(0, 0, 1, true);
        due("all known", x.count(8), 1);
        due("blanks anywhere", tell(x, " \n bridge\n4 4\n4;\n\ncalm 007 ;"), 2);
        due("leading noughts", x.cell(0, 4), 7);
        due("no blanks where signs part", tell(x, "calm5;fat f0 7;walker w1 1 0stay3;law push1or 2<=3;"), 4);
        due("bridge behind walkers without a cell", tell(x, "walker a 1 1 0 right;walker b 1 1 0 left;bridge 4 4 4;"), 3);
        x.beats(1);
        due("left comes on at the last cell", x.look(1, 0), 3);
        WalkingBridge y = told("bridge 12 9 9;calm 99;heat 9;hold 9999;gale 99;seed 99999;"
                + "walker abcdef 30 9 60 stay 11;fat a 11 99;fat b 0 1;sleep a 11 9999;sleep b 0 1;may a 9999;");
        due("count(0)", y.count(0), 12);
        feed(y, "calm 7;");
        y.beats(3);
        due("a fault leaves all", tell(y, "x"), NONE);
        due("the time", y.count(6), 3);
        due("text(0)", y.text(0), 0);
        due("the time", y.count(6), 0);
        due("LONG", y.count(0), 8);
    }

    private static void faults() {
        WalkingBridge x = new WalkingBridge();
        due("fault(2)", x.fault(2), NONE);
        due("fault(-1)", x.fault(-1), NONE);
        tell(x, "calm 100;");
        due("text(1)", x.text(1), -2);
        due("fault(0) after -2", x.fault(0), 2);
        due("fault(1) after -2", x.fault(1), 5);
        x.text(0);
        due("fault(0) after a sound one", x.fault(0), 0);
        due("fault(1) after a sound one", x.fault(1), NONE);

        faulty("x;", 1, 0);
        faulty(";", 1, 0);
        faulty("calm 5;;", 1, 7);
        faulty("5;", 1, 0);
        faulty("right;", 1, 0);
        faulty("Calm 5;", 1, 0);
        faulty("calm 5;\t", 1, 7);
        faulty("calm 5;\u00e9", 1, 7);
        faulty("calm 5", 1, 6);
        faulty("calm 5 \n", 1, 8);
        faulty("calm ", 1, 5);
        faulty("calm ;", 1, 5);
        faulty("calm -1;", 1, 5);
        faulty("calm 5 5;", 1, 7);
        faulty("bridge 4 4;", 1, 10);
        faulty("bridge 4 4 4 4;", 1, 13);
        faulty("abcdefg 1;", 1, 0);
        faulty("bridgee 4 4 4;", 1, 0);
        faulty("walker abcdefg 1 1 0 right;", 1, 7);
        faulty("walker right 1 1 0 right;", 1, 7);
        faulty("walker sway 1 1 0 right;", 1, 7);
        faulty("walker 1 1 0 right;", 1, 7);
        faulty("walker a 1 1 0 up;", 1, 15);
        faulty("walker a 1 1 0 right 3;", 1, 21);
        faulty("walker a 1 1 0 stay;", 1, 19);
        faulty("walker a 1 1 0", 1, 14);
        faulty("fat a 1;", 1, 7);
        faulty("sleep a 1;", 1, 9);
        faulty("may 1;", 1, 4);
        faulty("may a;", 1, 5);
        faulty("law 1;", 1, 4);
        faulty("law push", 1, 8);

        faulty("bridge 1 4 4;", 2, 7);
        faulty("bridge 13 4 4;", 2, 7);
        faulty("bridge 12 10 4;", 2, 10);
        faulty("bridge 12 9 10;", 2, 12);
        faulty("calm 100;", 2, 5);
        faulty("heat 10;", 2, 5);
        faulty("hold 10000;", 2, 5);
        faulty("gale 100;", 2, 5);
        faulty("seed 100000;", 2, 5);
        faulty("seed 99999999999999999999999999;", 2, 5);
        faulty("seed 4294967296;", 2, 5);
        faulty("walker a 0 1 0 right;", 2, 9);
        faulty("walker a 31 1 0 right;", 2, 9);
        faulty("walker a 1 0 0 right;", 2, 11);
        faulty("walker a 1 10 0 right;", 2, 11);
        faulty("walker a 1 1 61 right;", 2, 13);
        faulty("walker a 1 1 0 stay 8;", 2, 20);
        faulty("bridge 3 4 4;walker a 1 1 0 stay 3;", 2, 33);
        faulty("fat a 8 1;", 2, 6);
        faulty("fat a 0 0;", 2, 8);
        faulty("fat a 0 100;", 2, 8);
        faulty("sleep a 8 1;", 2, 8);
        faulty("sleep a 0 0;", 2, 10);
        faulty("sleep a 0 10000;", 2, 10);
        StringBuilder many = new StringBuilder();
        for (char name = 'a'; name <= 'f'; name++) {
            many.append("walker ").append(name).append(" 1 1 0 right;");
        }
        told(many.toString());
        faulty(many + "walker g 1 1 0 right;", 2, 126);
        faulty(many + "walker a", 2, 126);
        faulty("fat a 0 1;fat b 1 1;fat c 2 1;fat d 3 1;fat e 4 1;", 2, 40);
        faulty("sleep a 0 1;sleep b 0 1;sleep c 0 1;sleep d 0 1;sleep", 2, 48);
        faulty("may a 1;may b 1;may c 1;may d 1;", 2, 24);

        faulty("bridge 4 4 4;bridge 4 4 4;", 3, 13);
        faulty("calm 1;calm 1;", 3, 7);
        faulty("heat 1;heat 1;", 3, 7);
        faulty("hold 1;hold", 3, 7);
        faulty("gale 1;gale 1;", 3, 7);
        faulty("seed 1;seed 1;", 3, 7);
        faulty("walker a 1 1 0 right;walker a 1 1 0 right;", 3, 28);
        faulty("fat a 0 1;fat a 1 1;", 3, 14);
        faulty("sleep a 0 1;sleep a 1 1;", 3, 18);
        faulty("may a 1;may a 1;", 3, 12);
        faulty("law push 1;law push 1;", 3, 15);
        faulty("law side 1;law push 1;law side", 3, 26);
        told("walker a 1 1 0 right;fat a 0 1;sleep a 0 1;may a 1;law push 1;law side 1;");

        faulty("fat a 0 1;bridge 4 4 4;", 4, 10);
        faulty("sleep a 0 1;bridge 4 4 4;", 4, 12);
        faulty("walker a 1 1 0 stay 0;bridge 4 4 4;", 4, 22);
        faulty("bridge 4 4 4;fat a 0 1;bridge 4 4 4;", 3, 23);

        faulty("fat a 0 1;fat b 0 1;", 5, 16);
        faulty("fat a 3 1;fat b 1 1;fat c 3 100;", 5, 26);
        told("walker a 1 1 0 stay 3;fat a 3 1;");
    }

    private static void lawFaults() {
        faulty("law push 1", 1, 10);
        faulty("law push ;", 1, 9);
        faulty("law push a;", 1, 9);
        faulty("law push calm;", 1, 9);
        faulty("law push 1 2;", 1, 11);
        faulty("law push 1 weight;", 1, 11);
        faulty("law push 1+;", 1, 11);
        faulty("law push -1;", 1, 9);
        faulty("law push 1+not 2;", 1, 11);
        faulty("law push 1 not 2;", 1, 11);
        faulty("law push 1<2<3;", 1, 12);
        faulty("law push 1<not 2;", 1, 11);
        faulty("law push not 1<2=3;", 1, 16);
        faulty("law push 1 and 2<3<4;", 1, 18);
        faulty("law push (1<2)=(3<4)<5;", 1, 20);
        faulty("law push 1< =2;", 1, 12);
        faulty("law push 1=<2;", 1, 11);
        faulty("law push 1><2;", 1, 11);
        faulty("law push 1>>2;", 1, 11);
        faulty("law push ();", 1, 10);
        faulty("law push (1;", 1, 11);
        faulty("law push (1", 1, 11);
        faulty("law push 1);", 1, 10);
        faulty("law push (1));", 1, 12);
        faulty("law push (1)(2);", 1, 12);
        faulty("law push 10000;", 2, 9);
        faulty("law push " + times("(", 9) + "1" + times(")", 9) + ";", 2, 17);
        told("law push " + times("(", 8) + "1" + times(")", 8) + "+" + times("(", 8) + "1" + times(")", 8) + ";");
        String most = "law push 1" + times("+1", 31) + ";";
        due("63 knots", told(most).count(5), 63);
        due("64 knots", told(most + "law side warm;").count(5), 64);
        faulty(most + "law side not 1;", 2, 86);
        faulty(most + "law side 1+1;", 2, 83);
        faulty(most + "law side (1 and 1);", 2, 85);
        faulty(most + "law side 1 1;", 1, 84);
        faulty(most + "may m 1>=1;", 2, 80);
        faulty(most + "law side 10000;", 2, 82);
        faulty("law push " + times("not ", 64) + "1;", 2, 265);
        due("63 times not", told("law push " + times("not ", 63) + "7;walker a 1 1 0 right;").law(0, 0, 0, 0), 0);
        told("law push 1<(2<3) and (not (1=2))<>3 or not not 4>=5;");
    }

    private static void names() {
        WalkingBridge x = told("walker a 1 1 0 right;walker ab 1 1 0 right;walker zzzzzz 1 1 0 right;"
                + "fat b 3 1;fat a 1 1;sleep c 0 1;may d 1;may a 1;");
        due("a is 1, highest of six", x.named(0, 1 << 25), 0);
        due("ab", x.named(0, 1 << 25 | 2 << 20), 1);
        due("zzzzzz", x.named(0, letters("zzzzzz")), 2);
        due("fat a", x.named(1, letters("a")), 1);
        due("fat b", x.named(1, letters("b")), 0);
        due("sleep c", x.named(2, letters("c")), 0);
        due("may a", x.named(3, letters("a")), 1);
        due("no walker b", x.named(0, letters("b")), NONE);
        due("a in the lowest bits", x.named(0, 1), NONE);
        due("no sleeper a", x.named(2, letters("a")), NONE);
        due("no such what", x.named(4, letters("a")), NONE);
        due("no such what", x.named(-1, letters("a")), NONE);
        x.fat(0, 5);
        due("fat by call has no name", x.named(1, 0), NONE);
        due("more than 30 bits", x.named(0, 1 << 25 | 1 << 30), NONE);
        due("below 0", x.named(0, -1), NONE);
    }

    private static void looks() {
        WalkingBridge x = told("bridge 3 0 0;walker a 30 2 1 right;walker b 4 9 0 stay 2;");
        int[] first = {NONE, 30, 2, 0, 0};
        int[] second = {2, 4, 9, 1, 1};
        for (int what = 0; what < 5; what++) {
            due("look(0, " + what + ")", x.look(0, what), first[what]);
        }
        x.beats(1);
        for (int what = 0; what < 5; what++) {
            due("look(1, " + what + ")", x.look(1, what), second[what]);
        }
        x.beats(1);
        due("on", x.look(0, 0), 0);
        x.off(0);
        due("gone", x.look(0, 0), NONE);
        due("gone", x.look(0, 4), 2);
        due("steps stay", x.look(0, 3), 1);
        due("no such walker", thrown(x, 2, 0).equals("IndexOutOfBoundsException"), true);
        due("no such walker", thrown(x, -1, 0).equals("IndexOutOfBoundsException"), true);
        due("no such what", thrown(x, 0, 5).equals("NoSuchElementException"), true);
        due("no such what", thrown(x, 0, -1).equals("NoSuchElementException"), true);
        due("neither", thrown(x, 6, 5).equals("IndexOutOfBoundsException"), true);
    }

    private static void cells() {
        WalkingBridge x = told("bridge 3 0 0;calm 10;hold 9;walker a 20 1 0 right;walker b 5 9 0 stay 0;fat f 2 95;law side 30;");
        x.beats(1);
        int[] want = {-23, -23, 54, 54, 10, 1, 2};
        for (int what = 0; what < want.length; what++) {
            due("cell(0, " + what + ")", x.cell(0, what), want[what]);
        }
        due("calm is 100 at most", x.cell(2, 4), 100);
        due("whole plank", x.cell(1, 5), 0);
        due("nobody", x.cell(1, 6), 0);
        due("no such cell", x.cell(3, 0), MIN);
        due("no such cell", x.cell(-1, 0), MIN);
        due("no such what", x.cell(0, 7), MIN);
        due("no such what", x.cell(0, -1), MIN);
    }

    private static long value(String e) {
        return told("walker a 7 1 0 right;law push " + e + ";").law(0, 0, 0, 0);
    }

    private static void laws() {
        WalkingBridge x = told("bridge 4 0 0;heat 3;walker a 7 1 0 stay 1;walker b 20 1 9 right;"
                + "law push weight*1000+time*100+place*10+foot;law side sway*10+warm;");
        due("law(0, 0, 0, 0)", x.law(0, 0, 0, 0), 7000);
        due("law(0, 1, 3, 1)", x.law(0, 1, 3, 1), 20031);
        x.strike(2, -50);
        x.beats(1);
        due("time", x.law(0, 0, 3, 1), 7131);
        due("sway and warm", x.law(1, 0, 2, 0), -477);
        due("no such what", x.law(2, 0, 0, 0), Long.MIN_VALUE);
        due("no such what", x.law(-1, 0, 0, 0), Long.MIN_VALUE);
        due("no such walker", x.law(0, 2, 0, 0), Long.MIN_VALUE);
        due("no such walker", x.law(0, -1, 0, 0), Long.MIN_VALUE);
        due("no such cell", x.law(0, 0, 4, 0), Long.MIN_VALUE);
        due("no such cell", x.law(0, 0, -1, 0), Long.MIN_VALUE);
        due("no such foot", x.law(0, 0, 0, 2), Long.MIN_VALUE);
        due("no such foot", x.law(0, 0, 0, -1), Long.MIN_VALUE);
        due("no such law", told("walker a 1 1 0 right;law side 1;").law(0, 0, 0, 0), Long.MIN_VALUE);
        due("no such law", told("walker a 1 1 0 right;law push 1;").law(1, 0, 0, 0), Long.MIN_VALUE);
        String[] formulas = {"2+3*4", "8-2-1", "8/2/2", "(2+3)*4", "(0-7)/2", "7/(0-2)", "1 or 0 and 0", "(1 or 0) and 0",
            "not 5", "not 0", "5 and 3", "0 or 9", "not 0 and 0", "not 1 or 1", "not 0=1", "not not 8", "1+1=2", "3<3", "3<=3",
            "3>=4", "4>3", "3<>3", "3<>4", "0-5<0-4", "2*(3>2)+1", "weight-7=0", "1000*1000*1000*1000",
            "0-1000*1000*1000*1000", "9999*9999*9999/9999", "5-3+2", "12/5*5", "not 1=2", "4>=4", "4>4", "4<4", "4<=3",
            "1=2 or 2=2 and 3=3", "not 0 or not 1 and 0", "2*3<7 and 7<=2*3+1", "1-(0<1)*2", "7-(7>6)-(6>7)", "0 or 0"};
        long[] values = {14, 5, 2, 20, -3, -3, 1, 0, 0, 1, 1, 1, 0, 1, 1, 1, 1, 0, 1, 0, 1, 0, 1, 1, 3, 1, 1000000000000L,
            -1000000000000L, 99980001, 4, 10, 1, 1, 0, 0, 0, 1, 1, 1, -1, 6, 0};
        for (int i = 0; i < formulas.length; i++) {
            due(formulas[i], value(formulas[i]), values[i]);
        }
        String[] errors = {"1/0", "1/(weight-7)", "0*(1/0)", "1 or 1/0", "0 and 1/0", "1000*1000*1000*1000+1",
            "0-1000*1000*1000*1000-1", "9999*9999*9999*2", "1000*1000*1000*1000*(1000*1000*1000*1000)",
            "4096*4096*4096*(4096*4096*4096)", "not (5/0)", "9999*9999*9999*2 > 0", "(0-9999)*9999*9999*2",
            "8192*8192*64*(8192*8192*64)", "8192*8192*64*(0-8192*8192*64)", "(0-8192*8192*64)*(8192*8192*64)",
            "(0-8192*8192*64)*(0-8192*8192*64)", "0-1/0", "1/0=1/0"};
        for (String error : errors) {
            due(error, value(error), Long.MIN_VALUE);
        }
    }

    private static void times() {
        WalkingBridge x = new WalkingBridge();
        due("beats(0)", x.beats(0), 0);
        due("beats(-1)", x.beats(-1), NONE);
        due("beats(201)", x.beats(201), NONE);
        for (int i = 1; i <= 49; i++) {
            due("beats(200)", x.beats(200), 200 * i);
        }
        due("beats(200) behind 9999", x.beats(200), NONE);
        due("none went by", x.count(6), 9800);
        due("beats(199)", x.beats(199), 9999);
        due("beats(1) behind 9999", x.beats(1), NONE);
        due("beats(0)", x.beats(0), 9999);
        due("times to come go on", x.high(64), 0);
    }

    private static void walkersGo() {
        WalkingBridge x = told("bridge 3 0 0;calm 0;walker a 10 1 0 right;walker b 5 2 1 left;walker c 7 3 2 stay 1;");
        x.beats(1);
        states("up", x, -10, 0, 0);
        x.beats(1);
        states("up", x, -20, -10, -5);
        x.beats(1);
        states("up", x, -30, -27, -20);
        due("a", x.look(0, 0), 2);
        due("b", x.look(1, 0), 2);
        x.beats(1);
        due("a is gone", x.look(0, 4), 2);
        due("a's steps", x.look(0, 3), 4);
        due("b", x.look(1, 0), 1);
        states("up", x, -40, -49, -35);
        x.beats(2);
        due("c's steps", x.look(2, 3), 2);
        due("c stays", x.look(2, 0), 1);
        due("b's steps", x.look(1, 3), 3);
        x.beats(2);
        due("b is gone", x.look(1, 4), 2);
        due("b's steps", x.look(1, 3), 4);
        x.beats(3);
        due("c's steps", x.look(2, 3), 3);
        x.beats(1);
        due("c's steps", x.look(2, 3), 4);

        WalkingBridge pushed = told("bridge 2 0 0;calm 0;walker a 10 1 0 stay 0;walker b 2 1 0 stay 1;law push (weight=10)*150-100;");
        pushed.beats(1);
        states("up", pushed, -50, 99);
        WalkingBridge bounded = told("bridge 2 0 0;calm 0;walker a 10 1 0 stay 0;walker b 0002 1 0 stay 1;law push (weight=10)*150;");
        bounded.beats(1);
        states("up", bounded, -99, 0);
        WalkingBridge error = told("bridge 2 0 0;calm 0;walker a 10 1 0 stay 0;law push 1/foot;law side 1/(1-foot);");
        error.beats(2);
        states("up", error, -12, 0);
        states("side", error, -1, 0);
    }

    private static void planks() {
        WalkingBridge x = told("bridge 2 0 0;calm 0;hold 10;walker a 10 1 0 stay 0;walker b 4 1 2 right;walker c 3 1 9 left;");
        x.beats(1);
        due("10 is held", x.count(10), 0);
        x.beats(1);
        due("30 is not", x.cell(0, 5), 1);
        due("still there", x.look(0, 4), 1);
        x.beats(1);
        due("the plank is lost under a", x.look(0, 4), 2);
        due("a's steps", x.look(0, 3), 3);
        due("b comes on where it is lost", x.look(1, 4), 2);
        due("b's steps", x.look(1, 3), 1);
        states("up", x, -50, 0);
        x.strike(0, 70);
        x.beats(1);
        due("within again", x.cell(0, 0), 0);
        due("lost from then on", x.cell(0, 5), 1);
        x.beats(6);
        due("c on", x.look(2, 4), 1);
        x.beats(1);
        due("c walked on to none", x.look(2, 4), 2);
        WalkingBridge least = told("bridge 2 0 0;calm 0;hold 1;walker a 2 9 0 stay 0;walker b 1 9 0 stay 1;");
        least.beats(1);
        due("hold 1", least.cell(0, 5), 1);
        due("hold 1", least.cell(1, 5), 0);
        WalkingBridge all = told("bridge 2 0 0;calm 0;walker a 30 1 0 stay 0;");
        all.beats(60);
        due("without hold they hold all", all.count(10), 0);
    }

    private static void sideways() {
        WalkingBridge x = told("bridge 3 0 8;calm 0;heat 9;walker a 5 2 0 right;law side weight+4+place;");
        x.beats(1);
        states("side", x, 9, 0, 0);
        x.beats(1);
        states("side", x, 9, 4, 0);
        x.beats(1);
        states("side", x, 2, 1 + 4 - 10 + 3 + 0, 2);
    }

    private static void gales() {
        WalkingBridge x = told("bridge 2 0 0;calm 0;gale 49;seed 1;");
        x.beats(1);
        states("side", x, 0, 0);
        x.blow(true);
        x.beats(1);
        states("side", x, -41, -33);
        x.beats(1);
        states("side", x, -116, -24);
        states("up", x, 0, 0);
        x.blow(false);
        x.beats(1);
        states("side", x, -191, -15);
        x.blow(true);
        x.beats(1);
        due("numbers go on", x.cell(0, 3), -75 + 15);
        due("numbers go on", x.cell(1, 3), 9 + 34);
        WalkingBridge mild = told("bridge 3 0 0;calm 0;gale 1;seed 1;");
        mild.blow(true);
        mild.beats(1);
        states("side", mild, 16838 % 3 - 1, 5758 % 3 - 1, 10113 % 3 - 1);
    }

    private static void bounds() {
        WalkingBridge x = told("bridge 2 9 0;calm 50;heat 5;");
        x.strike(0, -7);
        x.beats(1);
        due("-7 less -3", x.cell(0, 1), -4);
        x.beats(1);
        due("4 times 8 by 16 is 2, -2 less -1", x.cell(0, 1), -1);
        due("4 times -4 by 16 is -1, less 0", x.cell(1, 1), -1);
        WalkingBridge far = told("bridge 2 0 0;calm 0;");
        for (int i = 0; i < 110; i++) {
            far.strike(0, 999);
        }
        due("speed is bounded", far.cell(0, 1), 100000);
        far.beats(1);
        due("out", far.cell(0, 0), 100000);
        far.beats(5);
        due("out is bounded", far.cell(0, 0), 100000);
        due("speed stays", far.cell(0, 1), 100000);
        WalkingBridge stiff = told("bridge 2 1 0;calm 0;heat 2;");
        stiff.strike(0, 100);
        stiff.beats(3);
        states("up", stiff, 300, 0);
    }

    private static void past() {
        WalkingBridge x = told("bridge 2 0 0;calm 0;walker a 10 1 0 stay 0;walker b 10 1 0 stay 1;law push (weight=10)*(time<1);");
        due("was(0) too early", x.was(0), NONE);
        x.beats(61);
        due("was(0) not kept", x.was(0), NONE);
        due("was(1)", x.was(1), 2);
        due("was(60)", x.was(60), 61);
        due("was(61)", x.was(61), NONE);
        due("was(-1)", x.was(-1), NONE);
        x.beats(200);
        due("was(200)", x.was(200), NONE);
        due("was(201)", x.was(201), 202);
        due("was(MAX)", x.was(Integer.MAX_VALUE), NONE);
        due("was(MIN)", x.was(MIN), NONE);
        x.keep();
        x.beats(100);
        x.back();
        due("the image's past", x.was(260), 261);
        due("the image's past", x.was(201), 202);
        due("no more", x.was(261), NONE);
    }

    private static void fatOnes() {
        WalkingBridge x = told("bridge 2 0 0;calm 3;fat f 0 10;");
        due("fat(0, 20)", x.fat(0, 20), 2);
        due("calm", x.cell(0, 4), 33);
        due("fat(0, 99)", x.fat(0, 99), 3);
        due("calm", x.cell(0, 4), 100);
        due("fat(2, 1)", x.fat(2, 1), NONE);
        due("fat(-1, 1)", x.fat(-1, 1), NONE);
        due("fat(0, 0)", x.fat(0, 0), NONE);
        due("fat(0, 100)", x.fat(0, 100), NONE);
        for (int i = 4; i <= 8; i++) {
            due("fat(1, 1)", x.fat(1, 1), i);
        }
        due("a ninth", x.fat(1, 1), NONE);
        due("calm", x.cell(1, 4), 8);
        x.undo();
        due("calm", x.cell(1, 4), 7);
    }

    private static void offs() {
        WalkingBridge x = told("bridge 2 0 0;calm 0;walker a 10 1 0 stay 0;walker b 5 1 0 right;");
        x.beats(1);
        due("off(0)", x.off(0), true);
        due("off(0)", x.off(0), false);
        due("off(2)", x.off(2), false);
        due("off(-1)", x.off(-1), false);
        x.beats(2);
        due("b went off itself", x.off(1), false);
        due("a pushes no more", x.cell(0, 1), -15);
    }

    private static void blows() {
        WalkingBridge x = new WalkingBridge();
        due("blow(false)", x.blow(false), false);
        due("blow(true)", x.blow(true), true);
        due("blow(true)", x.blow(true), false);
        due("blow(false)", x.blow(false), true);
        due("to undo", x.count(9), 2);
    }

    private static void strikes() {
        WalkingBridge x = told("bridge 2 0 0;calm 0;");
        due("strike(0, 999)", x.strike(0, 999), 999);
        due("strike(0, -1)", x.strike(0, -1), 998);
        due("strike(0, 0)", x.strike(0, 0), 998);
        due("nothing to undo of 0", x.count(9), 2);
        due("strike(1, -999)", x.strike(1, -999), -999);
        due("strike(0, 1000)", x.strike(0, 1000), MIN);
        due("strike(0, -1000)", x.strike(0, -1000), MIN);
        due("strike(2, 0)", x.strike(2, 0), MIN);
        due("strike(-1, 0)", x.strike(-1, 0), MIN);
        for (int i = 0; i < 100; i++) {
            x.strike(1, -999);
        }
        due("bounded", x.cell(1, 1), -100000);
        x.beats(1);
        due("strike at the bound", x.strike(1, -5), -100000);
        due("nothing to undo of it", x.count(9), 0);
        due("strike(1, 5)", x.strike(1, 5), -99995);
        due("strike(1, -5)", x.strike(1, -50), -100000);
        due("two to undo", x.count(9), 2);
        x.undo();
        due("undone", x.cell(1, 1), -99995);
    }

    private static final String STANDER = "bridge 4 0 0;calm 0;walker a 10 1 0 stay 2;";

    private static void highs() {
        WalkingBridge x = told("bridge 4 0 0;calm 0;gale 9;walker a 10 1 0 right;");
        x.blow(true);
        due("high(1)", x.high(1), 10);
        due("high(64)", x.high(64), 640);
        due("high(0)", x.high(0), NONE);
        due("high(65)", x.high(65), NONE);
        due("high(-1)", x.high(-1), NONE);
        due("nothing went by", x.count(6), 0);
        due("nothing went by", x.count(12), 0);
        x.strike(0, 20);
        due("up as down", x.high(3), 30);
        WalkingBridge y = told("bridge 2 8 0;calm 0;");
        y.strike(0, 16);
        y.beats(1);
        due("of times to come, not of now", y.high(1), 16);
        y.beats(1);
        due("cells", y.cell(1, 0), 8);
    }

    private static void creaks() {
        WalkingBridge x = told("bridge 4 0 0;calm 0;walker a 10 1 0 right;sleep a 0 30;sleep b 0 31;sleep c 1 640;sleep d 0 640;");
        due("creaks(0)", x.creaks(0), 3);
        due("creaks(1)", x.creaks(1), 4);
        due("creaks(2)", x.creaks(2), -2);
        due("creaks(3)", x.creaks(3), 64);
        due("creaks(4)", x.creaks(4), NONE);
        due("creaks(-1)", x.creaks(-1), NONE);
        x.beats(5);
        due("awake already", x.creaks(0), 1);
        due("nothing went by", x.count(6), 5);
        due("no sleepers", new WalkingBridge().creaks(0), NONE);
    }

    private static void lies() {
        WalkingBridge x = told(STANDER);
        due("none", x.lies(2, 0, 50, 0), 30);
        due("none's cells", x.lies(2, 0, 50, 1), -2);
        due("one", x.lies(2, 1, 50, 0), 13);
        due("one's cell", x.lies(2, 1, 50, 1), 2);
        due("one's second", x.lies(2, 1, 50, 2), -2);
        int[] two = {0, 2, 2, -2};
        int[] three = {0, 0, 2, 2};
        for (int what = 0; what < 4; what++) {
            due("two, " + what, x.lies(2, 2, 50, what), two[what]);
            due("three, " + what, x.lies(2, 3, 50, what), three[what]);
        }
        due("n 0", x.lies(0, 1, 50, 0), NONE);
        due("n 33", x.lies(33, 1, 50, 0), NONE);
        due("n 32", x.lies(32, 3, 99, 0), 0);
        due("k -1", x.lies(1, -1, 50, 0), NONE);
        due("k 4", x.lies(1, 4, 50, 0), NONE);
        due("calm 0", x.lies(1, 1, 0, 0), NONE);
        due("calm 100", x.lies(1, 1, 100, 0), NONE);
        due("what -1", x.lies(1, 1, 50, -1), NONE);
        due("what 4", x.lies(1, 1, 50, 4), NONE);
        for (int i = 0; i < 6; i++) {
            x.fat(0, 1);
        }
        due("eight", x.lies(2, 2, 50, 0), 0);
        due("a ninth", x.lies(2, 3, 50, 0), NONE);
        due("nobody came", x.count(2), 6);
    }

    private static void fewest() {
        WalkingBridge x = told(STANDER);
        int[][] asked = {{50, 30, 0}, {50, 29, 1}, {50, 13, 1}, {50, 12, 2}, {50, 0, 2}, {1, 0, -2}, {34, 0, 3}, {1, 100000, 0},
            {0, 0, NONE}, {100, 0, NONE}, {50, -1, NONE}, {50, 100001, NONE}};
        for (int[] one : asked) {
            due("fewest(2, " + one[0] + ", " + one[1] + ")", x.fewest(2, one[0], one[1]), one[2]);
        }
        due("n 0", x.fewest(0, 50, 0), NONE);
        due("n 33", x.fewest(33, 50, 0), NONE);
        due("n 32", x.fewest(32, 50, 0), 2);
        for (int i = 0; i < 7; i++) {
            x.fat(0, 1);
        }
        due("one can come", x.fewest(2, 50, 13), 1);
        due("two can't", x.fewest(2, 50, 12), -2);
        x.fat(0, 1);
        due("none can", x.fewest(2, 50, 13), -2);
        due("none need", x.fewest(2, 50, 30), 0);
    }

    private static void forbidden() {
        WalkingBridge x = told("bridge 2 0 0;calm 0;walker a 30 1 0 stay 0;law push time*(weight=10)+(weight=9);");
        due("the beat", x.forbidden(4, 10, 0), 2);
        due("its high", x.forbidden(4, 10, 1), 4);
        due("the least of several", x.forbidden(4, 9, 0), 1);
        due("their high", x.forbidden(4, 9, 1), 4);
        x.fat(1, 99);
        x.beats(7);
        x.strike(0, 500);
        due("fat ones as now, at rest", x.forbidden(4, 10, 1), 3);
        due("fat ones as now, at rest", x.forbidden(4, 10, 0), 1);
        due("n 0", x.forbidden(0, 10, 0), NONE);
        due("n 65", x.forbidden(65, 10, 0), NONE);
        due("weight 0", x.forbidden(1, 0, 0), NONE);
        due("weight 31", x.forbidden(1, 31, 0), NONE);
        due("what 2", x.forbidden(1, 10, 2), NONE);
        due("what -1", x.forbidden(1, 10, -1), NONE);
        WalkingBridge ninth = told("bridge 2 0 0;law push (time=9)*50;");
        due("the ninth beat", ninth.forbidden(10, 1, 0), 9);
        WalkingBridge tenth = told("bridge 2 0 0;law push (time=10)*50;");
        due("no tenth beat", tenth.forbidden(11, 1, 0), 1);
        due("no tenth beat", tenth.forbidden(11, 1, 1), 0);
        WalkingBridge held = told("bridge 2 0 0;calm 0;hold 10;");
        due("planks hold at first", held.forbidden(64, 30, 1), 64 * 30);
        held.strike(0, 99);
        held.beats(1);
        due("a lost plank is whole again", held.forbidden(1, 30, 1), 30);
    }

    private static final String CROWDS = "bridge 2 0 0;calm 0;hold 99;walker a 1 1 0 stay 0;walker b 2 1 0 stay 0;walker c 3 1 0 stay 0;"
            + "law push (weight=1)*20-(weight=2)*15+(weight=3)*8;";

    private static void cancels() {
        WalkingBridge x = told(CROWDS);
        due("once", x.cancel(0, 1, 1), 30);
        due("twice", x.cancel(1, 0, 2), 90);
        due("together", x.cancel(0, 2, 1), 0);
        x.off(0);
        x.beats(20);
        due("from rest, nobody gone", x.cancel(0, 1, 1), 30);
        x.fat(0, 50);
        due("fat ones as now", x.cancel(0, 1, 1), 10 + 8 - 3);
        due("alike", x.cancel(1, 1, 1), MIN);
        due("no such", x.cancel(3, 1, 1), MIN);
        due("no such", x.cancel(1, -1, 1), MIN);
        due("n 0", x.cancel(0, 1, 0), MIN);
        due("n 65", x.cancel(0, 1, 65), MIN);
    }

    private static void owes() {
        WalkingBridge x = told(CROWDS);
        due("a", x.owes(0, 1), 6);
        due("b, 0 at least", x.owes(1, 1), 0);
        due("c", x.owes(2, 1), 8);
        x.off(1);
        due("gone", x.owes(1, 1), 0);
        due("a now", x.owes(0, 2), 60);
        due("no such", x.owes(3, 1), NONE);
        due("no such", x.owes(-1, 1), NONE);
        due("n 0", x.owes(0, 0), NONE);
        due("n 65", x.owes(0, 65), NONE);
    }

    private static void pumps() {
        WalkingBridge x = told("bridge 2 0 0;calm 5;fat f 1 95;");
        due("greatest", x.pump(0, 5, 3, 0), 30);
        due("times", x.pump(0, 5, 3, 1), 7);
        due("of several the least", x.pump(1, 5, 7, 1), 0);
        due("nothing", x.pump(1, 5, 7, 0), 0);
        x.strike(0, 9);
        due("upwards", x.pump(0, 5, 3, 0), 27);
        due("upwards", x.pump(0, 5, 3, 1), 0);
        due("the first time is the lowest bit", x.pump(0, 6, 2, 1), 0);
        x.strike(0, -7);
        due("behind the last", x.pump(0, 1, 2, 0), 4);
        due("force 0", x.pump(0, 0, 1, 0), NONE);
        due("force 100", x.pump(0, 100, 1, 0), NONE);
        due("force 99", x.pump(0, 99, 1, 0), 97 - 97 * 5 / 100);
        due("n 0", x.pump(0, 1, 0, 0), NONE);
        due("n 8", x.pump(0, 1, 8, 0), NONE);
        due("cell 2", x.pump(2, 1, 1, 0), NONE);
        due("cell -1", x.pump(-1, 1, 1, 0), NONE);
        due("what 2", x.pump(0, 1, 1, 2), NONE);
        due("what -1", x.pump(0, 1, 1, -1), NONE);
        WalkingBridge bits = told("bridge 2 9 0;calm 0;");
        due("all but the first time", bits.pump(0, 64, 4, 0), 126);
        due("all but the first time", bits.pump(0, 64, 4, 1), 14);
        due("nothing went by", bits.count(6), 0);
    }

    private static void keepers() {
        WalkingBridge x = told("bridge 3 0 0;calm 0;");
        due("the cell", x.keeper(1, 10, 1, 50, 0), 1);
        due("the greatest", x.keeper(1, 10, 1, 50, 1), 5);
        x.strike(0, 50);
        due("against what sways most", x.keeper(1, 10, 2, 50, 0), 0);
        due("the greatest then", x.keeper(1, 10, 2, 50, 1), 25 + 13);
        x.strike(2, 50);
        due("of several the first", x.keeper(1, 10, 2, 50, 0), 0);
        due("of several the first", x.keeper(1, 10, 2, 50, 1), 100);
        due("nobody came", x.count(2), 0);
        due("n 6", x.keeper(1, 10, 6, 50, 0), NONE);
        due("n 0", x.keeper(1, 10, 0, 50, 0), NONE);
        due("n 5", x.keeper(1, 10, 5, 50, 1), 250);
        due("cell 3", x.keeper(3, 10, 1, 50, 0), NONE);
        due("cell -1", x.keeper(-1, 10, 1, 50, 0), NONE);
        due("force 0", x.keeper(1, 0, 1, 50, 0), NONE);
        due("force 100", x.keeper(1, 100, 1, 50, 0), NONE);
        due("calm 0", x.keeper(1, 10, 1, 0, 0), NONE);
        due("calm 100", x.keeper(1, 10, 1, 100, 0), NONE);
        due("what 2", x.keeper(1, 10, 1, 50, 2), NONE);
        due("what -1", x.keeper(1, 10, 1, 50, -1), NONE);
        for (int i = 0; i < 7; i++) {
            x.fat(0, 1);
        }
        due("an eighth", x.keeper(1, 10, 1, 50, 0), 2);
        x.fat(0, 1);
        due("8 are fat", x.keeper(1, 10, 1, 50, 0), NONE);
    }

    private static void groans() {
        WalkingBridge x = told("bridge 3 0 0;");
        due("unsay(0) of none", x.unsay(0), NONE);
        due("groan", x.groan(0, 0, 0, true), 0);
        due("groan", x.groan(63, 2, 99999, false), 1);
        due("time 64", x.groan(64, 0, 0, true), NONE);
        due("time -1", x.groan(-1, 0, 0, true), NONE);
        due("cell 3", x.groan(0, 3, 0, true), NONE);
        due("cell -1", x.groan(0, -1, 0, true), NONE);
        due("much -1", x.groan(0, 0, -1, true), NONE);
        due("much 100000", x.groan(0, 0, 100000, true), NONE);
        due("unsay(2)", x.unsay(2), NONE);
        due("unsay(-1)", x.unsay(-1), NONE);
        due("unsay(1)", x.unsay(1), 2);
        due("unsay of a strike", x.unsay(2), 3);
        for (int i = 4; i < 24; i++) {
            due("groan " + i, i % 2 == 0 ? x.groan(1, 1, 1, true) : x.unsay(i - 1), i);
        }
        due("a 25th", x.groan(1, 1, 1, true), NONE);
        due("a 25th", x.unsay(0), NONE);
        due("count(7)", x.count(7), 24);
        due("known(24)", x.known(24), true);
        due("known(25)", x.known(25), false);
    }

    private static final String PAIR = "bridge 2 0 0;calm 0;walker a 10 1 0 stay 0;walker b 5 1 0 stay 0;";

    private static void knowing() {
        WalkingBridge x = told(PAIR);
        x.groan(0, 0, 10, true);
        x.groan(0, 0, 15, false);
        due("a alone", x.began(), 1);
        x.unsay(1);
        due("1 is struck: a, both", x.began(), 2);
        x.unsay(2);
        due("the strike is struck", x.began(), 1);
        x.unsay(3);
        due("so is that one", x.began(), 2);
        due("known(3)", x.known(3), true);
        due("by three", x.began(), 2);
        due("known(4)", x.known(4), true);
        due("by four", x.began(), 1);
        due("known(2)", x.known(2), true);
        due("by two no strike counts", x.began(), 1);
        due("known(1)", x.known(1), true);
        due("by one", x.began(), 2);
        due("known(0)", x.known(0), true);
        due("by none", x.began(), 4);
        x.groan(0, 0, 99, true);
        due("those to come don't count", x.began(), 4);
        due("known(-2)", x.known(-2), false);
        due("known(7)", x.known(7), false);
        due("nothing changed", x.count(8), 0);
        due("known(6)", x.known(6), true);
        due("by all so far", x.began(), 0);
        x.unsay(5);
        due("the strike is beyond", x.began(), 0);
        due("known(-1)", x.known(-1), true);
        due("by all", x.began(), 2);
        x.groan(1, 0, 45, true);
        due("also those to come", x.began(), 1);
    }

    private static void beginnings() {
        WalkingBridge x = told(PAIR + "walker c 3 1 1 stay 1;");
        due("all sets", x.began(), 8);
        due("the last", x.set(7), 7);
        due("none behind", x.set(8), -2);
        due("below 0", x.set(-1), NONE);
        due("some", x.sure(0), 2);
        x.groan(0, 0, 15, true);
        due("a and b", x.began(), 2);
        due("first", x.set(0), 3);
        due("second", x.set(1), 7);
        due("no third", x.set(2), -2);
        due("a is sure", x.sure(0), 1);
        due("c may be", x.sure(2), 2);
        x.groan(63, 1, 3 * 63, false);
        due("without c", x.began(), 1);
        due("c in none", x.sure(2), 0);
        due("no such", x.sure(3), NONE);
        due("no such", x.sure(-1), NONE);
        x.beats(4);
        x.off(0);
        x.strike(0, 77);
        due("from rest", x.began(), 1);
        x.fat(0, 50);
        due("fat ones as now", x.began(), 0);
        due("there are none", x.sure(0), -2);
        due("no such even then", x.sure(3), NONE);
        due("set(0)", x.set(0), -2);
        due("set(-1)", x.set(-1), NONE);
        x.undo();
        WalkingBridge exact = told(PAIR);
        exact.groan(0, 0, 10, true);
        exact.groan(0, 0, 11, false);
        due("at least as much, and less", exact.set(0), 1);
        due("that alone", exact.began(), 1);
        WalkingBridge none = told("bridge 2 0 0;");
        due("the empty set", none.began(), 1);
        none.groan(0, 0, 0, false);
        due("less than 0 never", none.began(), 0);
    }

    private static void fits() {
        WalkingBridge x = told(PAIR + "may x 7;may y weight;may z 1/0;law push 8;");
        due("all", x.fits(), 15);
        x.groan(0, 0, 15, true);
        due("15 at least: y, an error's weight, the told", x.fits(), 14);
        x.groan(0, 0, 16, true);
        due("the told law", x.fits(), 8);
        x.groan(0, 0, 17, true);
        due("none", x.fits(), 0);
        x.known(1);
        x.off(0);
        due("for all walkers", x.fits(), 14);
        WalkingBridge plain = told(PAIR);
        plain.groan(0, 0, 15, true);
        due("weight without a law", plain.fits(), 1);
        plain.groan(0, 0, 16, true);
        due("no more", plain.fits(), 0);
    }

    private static void galesDrawn() {
        WalkingBridge x = told("bridge 2 0 0;calm 0;gale 49;seed 7;");
        int[][] asked = {{47, 10}, {46, 9}, {41, 6}, {40, 4}, {26, 1}, {25, 0}};
        for (int[] one : asked) {
            due("gales(1, 1, " + one[0] + ")", x.gales(1, 1, one[0]), one[1]);
        }
        due("gales(1, 2, 99999)", x.gales(1, 2, 99999), 10);
        due("the least seed", x.gales(0, 32, 99999), 10);
        due("the greatest seed", x.gales(Integer.MAX_VALUE, 32, 99999), 10);
        due("seed -1", x.gales(-1, 1, 1), NONE);
        due("n 0", x.gales(1, 0, 1), NONE);
        due("n 33", x.gales(1, 33, 1), NONE);
        due("bound -1", x.gales(1, 1, -1), NONE);
        due("bound 100000", x.gales(1, 1, 100000), NONE);
        due("nothing went by", x.count(13), 0);
        WalkingBridge still = told("bridge 2 0 0;calm 0;walker a 1 1 0 stay 0;law side 9;");
        due("no gale, a walker", still.gales(5, 2, 9), 10);
        due("no gale, a walker", still.gales(5, 1, 8), 0);
    }

    private static void tried() {
        WalkingBridge x = told("bridge 2 8 0;calm 0;heat 8;gale 49;seed 1;walker a 10 1 0 stay 0;walker b 6 9 0 stay 1;"
                + "fat f 0 50;law push weight+warm;law side weight;");
        int[] up = {6, 18, 0, 14, 14, 14};
        int[] aside = {6, 10, 0, 6, 27, 0};
        for (int what = 0; what < 6; what++) {
            due("tried(" + what + ", 0, 1)", x.tried(what, 0, 1), up[what]);
            due("tried(" + (what + 6) + ", 0, 1)", x.tried(what + 6, 0, 1), aside[what]);
        }
        due("the other gone", x.tried(3, 1, 1), 9);
        due("the other gone", x.tried(9, 1, 1), 5);
        for (int what = 0; what < 12; what++) {
            due("n 0", x.tried(what, 0, 0), 0);
            due("n 65", x.tried(what, 0, 65), NONE);
            due("n -1", x.tried(what, 0, -1), NONE);
            due("i 1", x.tried(what, 1, 0), what % 6 == 3 ? 0 : NONE);
            due("i 2", x.tried(what, 2, 0), NONE);
            due("i -1", x.tried(what, -1, 0), NONE);
        }
        due("what 12", x.tried(12, 0, 0), NONE);
        due("what -1", x.tried(-1, 0, 0), NONE);
        x.blow(true);
        due("else it doesn't blow", x.tried(6, 0, 1), 6);
        due("the numbers stay", x.tried(10, 0, 1), 27);
        x.beats(1);
        due("as tried", x.count(13), 27);
        due("0 times on: as it is", x.tried(11, 0, 0), 27);
        WalkingBridge last = told("bridge 2 0 0;calm 0;");
        last.strike(0, 5);
        last.strike(1, -40);
        last.beats(1);
        last.strike(1, 40);
        last.strike(1, 37);
        due("at last, not ever", last.tried(2, 0, 1), 10);
    }

    private static void undone() {
        WalkingBridge x = told("bridge 2 0 0;calm 5;walker a 10 1 0 stay 0;walker b 10 1 9 right;");
        x.beats(1);
        x.fat(0, 20);
        x.off(0);
        x.blow(true);
        x.strike(0, 7);
        x.off(1);
        due("five", x.count(9), 5);
        due("undo()", x.undo(), 4);
        due("b is to come", x.look(1, 4), 0);
        due("undo()", x.undo(), 3);
        due("speed", x.cell(0, 1), -10);
        due("undo()", x.undo(), 2);
        due("it doesn't blow", x.count(11), 0);
        due("undo()", x.undo(), 1);
        due("a is on", x.look(0, 4), 1);
        due("a is there", x.look(0, 0), 0);
        due("undo()", x.undo(), 0);
        due("calm", x.cell(0, 4), 5);
        due("undo()", x.undo(), NONE);
        x.strike(0, 1);
        x.beats(0);
        due("no time went by", x.count(9), 1);
        x.beats(1);
        due("a time went by", x.undo(), NONE);
        for (int i = 1; i <= 25; i++) {
            x.strike(1, i);
        }
        due("20 at most", x.count(9), 20);
        for (int i = 19; i >= 0; i--) {
            due("undo()", x.undo(), i);
        }
        due("undo()", x.undo(), NONE);
        due("the first five stay", x.cell(1, 1), 1 + 2 + 3 + 4 + 5);
        for (int i = 0; i < 4; i++) {
            x.strike(0, 100);
            x.fat(1, 3);
            x.off(i % 2);
            x.blow(i % 2 == 0);
            x.strike(1, 1000 / (i + 2));
            x.strike(0, i - 9);
        }
        due("20 at most", x.count(9), 20);
        for (int i = 19; i >= 0; i--) {
            due("undo()", x.undo(), i);
        }
        due("the first fat one stays", x.count(2), 1);
        due("a is on", x.look(0, 4), 1);
        due("the first strike stays", x.cell(0, 1), -19 + 100);
        due("the other cell", x.cell(1, 1), 15);
        due("it doesn't blow", x.count(11), 0);
    }

    private static void images() {
        WalkingBridge x = told("bridge 2 0 0;calm 0;hold 15;gale 49;seed 1;walker a 10 1 0 stay 0;");
        due("back()", x.back(), NONE);
        x.blow(true);
        x.beats(1);
        due("keep()", x.keep(), 1);
        x.groan(0, 0, 99, true);
        x.known(1);
        x.fat(0, 50);
        x.blow(false);
        x.blow(true);
        x.strike(1, 3);
        x.off(0);
        x.beats(2);
        due("a plank", x.count(10), 1);
        x.fat(1, 1);
        due("back()", x.back(), 1);
        due("nothing to undo", x.undo(), NONE);
        int[] counts = {2, 1, 0, 0, 0, 0, 1, 1, 1, 0, 0, 1, 10, 41};
        for (int what = 0; what < counts.length; what++) {
            due("count(" + what + ")", x.count(what), counts[what]);
        }
        due("a is on", x.look(0, 4), 1);
        due("a's steps", x.look(0, 3), 1);
        x.beats(1);
        states("side", x, -116, -24);
        due("back again", x.back(), 1);
        x.beats(3);
        due("keep in place of it", x.keep(), 4);
        x.beats(1);
        due("back()", x.back(), 4);
        x.text(0);
        due("no image", x.back(), NONE);
        due("keep()", x.keep(), 0);
    }

    private static void counts() {
        WalkingBridge x = told("bridge 5 0 0;calm 0;hold 50;walker a 10 1 0 stay 0;walker b 30 1 0 stay 1;fat f 3 1;"
                + "sleep s 1 1;sleep t 2 2;sleep u 3 3;may m 1;may n 1+1;law side 9;");
        x.beats(3);
        x.fat(2, 2);
        x.blow(true);
        x.groan(1, 1, 1, true);
        x.groan(1, 1, 1, true);
        x.unsay(0);
        x.known(2);
        int[] counts = {5, 2, 2, 3, 2, 5, 3, 3, 2, 2, 2, 1, 150, 18};
        for (int what = 0; what < counts.length; what++) {
            due("count(" + what + ")", x.count(what), counts[what]);
        }
        due("count(14)", x.count(14), NONE);
        due("count(-1)", x.count(-1), NONE);
        x.known(-1);
        due("by all", x.count(8), 3);
    }
}
