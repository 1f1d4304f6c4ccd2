/** Each sentence about what is asked of TIMES to come, of GROANS and of trying (==== 3; promises 15 to 32): a test of its own. */
public final class QuestionsBoundsTest extends Checks {
    private static final int[] NOT_1_TO_32 = {MIN, -32, -2, -1, 0, 33, 34, MAX};
    private static final int[] NOT_1_TO_64 = {MIN, -64, -2, -1, 0, 65, 66, MAX};
    private static final int[] NO_CALM = {MIN, -50, -1, 0, 100, 101, MAX};

    public static void main(String[] args) {
        about("high: HIGH by n (1 .. 64): of the next n TIMES; NONE: no such n");
        highTimes();
        about("HEIGHT of TIMES to come: as it all is and goes on");
        highGoesOn();
        about("CREAKS: the first of the next 64 TIMES; -2: not by then");
        creaksTimes();
        about("CREAKS: UP at the CELL is as much as wakes without sign");
        creaksMuch();
        about("creaks: NONE: no such one");
        creaksWho();
        about("lies: n 1 .. 32, k 0 .. 3, calm 1 .. 99; NONE: no such ones");
        liesArguments();
        about("lies: what 0: HIGH, 1 .. 3: the CELLS. -2: there are no so many");
        liesWhat();
        about("LIES: of several the first CELLS by numbers, each at least the one ahead; 0 .. LONG less 1, two may be at one");
        liesCells();
        about("There are 8 FAT ones in all at most: what would need a ninth can't be");
        liesNinth();
        fewestNinth();
        about("FEWEST: the least k 0 .. 3 by which HIGH by n is at most the bound; -2: not by 3");
        fewestK();
        about("fewest: n 1 .. 32, calm 1 .. 99, the bound 0 .. 100000");
        fewestArguments();
        about("FORBIDDEN: by a BEAT 1 .. 9, the least of several");
        forbiddenBeats();
        about("FORBIDDEN: over the bridge at rest: nobody else but FAT ones, TIME 0, no PLANKS LOST");
        forbiddenRest();
        about("forbidden: n 1 .. 64, WEIGHT 1 .. 30");
        forbiddenArguments();
        about("CANCEL: of each of both alone added, less HIGH with both, from rest as the TEXT begins");
        cancelRest();
        about("cancel: n 1 .. 64; Integer.MIN_VALUE: no such ones, alike");
        cancelArguments();
        about("OWES: less HIGH by n, if it were GONE now (0 at least)");
        owesLeast();
        about("owes: n 1 .. 64; NONE: no such ones");
        owesArguments();
        about("PUMP: behind the last; of several the least bits (the first TIME lowest)");
        pumpBits();
        about("pump: force 1 .. 99, n 1 .. 7; NONE: no such ones");
        pumpArguments();
        about("KEEPER: that greatest least, of several the first");
        keeperCells();
        about("keeper: force 1 .. 99, n 1 .. 5, calm 1 .. 99; NONE: no such ones, 8 are FAT");
        keeperArguments();
        about("groan: TIME 0 .. 63, 0 .. 99999; NONE: no such ones, or there are 24");
        groanArguments();
        mostGroans();
        about("GROANS: behind a TIME 0 .. 63, so much without sign at least, or wasn't");
        groanTimes();
        groanMuch();
        about("unsay: NONE: no such one, or there are 24");
        unsays();
        about("a STRIKE may be STRUCK: then it doesn't count; asked from the last one on");
        strikes();
        about("known: -1: by all, also those to come; false: no such n");
        knowns();
        about("BEGAN: all sets of WALKERS with whom alone all KNOWN ones are so");
        beganSets();
        about("set: ascending; -2: there are no so many; NONE: k is below 0");
        sets();
        about("sure: in all (1), in none (0), in some (2); -2: there are none; NONE: no such one");
        sures();
        about("FITS: MAY (bits; the bit behind all: the law as told), for all WALKERS");
        fitsBits();
        about("gales: numbers from a seed 0 .. 2147483647 on, n 1 .. 32, a bound 0 .. 99999; NONE: no such ones");
        galesArguments();
        about("gales: one behind another; no SIDE is above a bound without sign behind any TIME");
        galesBounds();
        about("tried: n 0 .. 64, what 0 .. 11; NONE: no such ones (i 0 of all but 3, 9)");
        triedArguments();
        about("TRIED: 0 no heat .. 5 nobody pushes to the SIDE: the greatest without sign behind them (at last)");
        triedKinds();
        finish("the bounds of questions hold");
    }

    /** The first cell is struck and glides on by 5 a TIME. */
    private static WalkingBridge glide(String more) {
        WalkingBridge x = told("bridge 4 0 0;calm 0;" + more);
        x.strike(0, 5);
        return x;
    }

    private static void fats(WalkingBridge x, int cell, int n) {
        for (int i = 0; i < n; i++) {
            x.fat(cell, 1);
        }
    }

    // ---- high, creaks ----

    private static void highTimes() {
        WalkingBridge x = glide("");
        for (int n = 1; n <= 64; n++) {
            due("high(" + n + ")", x.high(n), 5 * n);
        }
        for (int n : NOT_1_TO_64) {
            due("high(" + n + ")", x.high(n), NONE);
        }
        due("nothing went by", x.count(6), 0);
        due("nothing went by", x.cell(0, 0), 0);
        x.beats(10);
        due("high(1) from now on", x.high(1), 55);
        due("high(64) from now on", x.high(64), 370);
        WalkingBridge falls = glide("");
        falls.beats(4);
        falls.strike(0, -10);
        due("not the height now", falls.high(1), 15);
        due("the greatest, not the last", falls.high(7), 15);
        due("without sign", falls.high(8), 20);
        due("without sign", falls.high(9), 25);
        WalkingBridge last = told("bridge 4 0 0;calm 0;");
        last.strike(3, -7);
        due("of the last cell", last.high(1), 7);
    }

    private static void highGoesOn() {
        WalkingBridge x = told("bridge 2 0 0;calm 0;gale 99;seed 3;walker a 9 1 60 stay 0;law push (time=63)*50+(time=64)*40;");
        x.blow(true);
        due("high(63)", x.high(63), 0);
        due("behind TIME 63", x.high(64), 50);
        x.beats(1);
        due("TIMES go on", x.high(64), 50 + 90);
        for (int i = 0; i < 49; i++) {
            x.beats(200);
        }
        x.beats(198);
        due("at 9999", x.count(6), 9999);
        due("TIMES to come behind 9999", x.high(64), 100000);
        WalkingBridge late = told("bridge 2 0 0;calm 0;walker a 1 1 0 stay 0;law push (time=9999+63)*50+(time=9999+64)*40;");
        for (int i = 0; i < 49; i++) {
            late.beats(200);
        }
        late.beats(199);
        due("TIME 10062 of those to come", late.high(64), 50);
        due("not by 63", late.high(63), 0);
        WalkingBridge walks = told("bridge 5 0 0;calm 0;walker a 10 1 0 right;walker b 10 1 0 left;law push (place=3)*70+(place=1)*(weight+10*foot);");
        walks.beats(2);
        due("b is at 3 now", walks.count(12), 70);
        due("both at 2 then", walks.high(1), 140);
        due("and a at 3", walks.high(2), 280);
        due("asked once more", walks.high(1), 140);
        WalkingBridge hold = told("bridge 2 0 0;calm 0;hold 25;walker a 10 1 0 stay 0;");
        due("planks are lost on the way", hold.high(4), 10 + 20 + 20 + 20);
        due("none is lost now", hold.count(10), 0);
        due("a is to come now", hold.look(0, 4), 0);
    }

    private static void creaksTimes() {
        WalkingBridge x = glide("sleep a 0 320;sleep b 0 321;sleep c 0 315;sleep d 0 5;");
        due("the 64th", x.creaks(0), 64);
        due("behind the 64th", x.creaks(1), -2);
        due("the 63rd", x.creaks(2), 63);
        due("the first", x.creaks(3), 1);
        x.beats(1);
        due("from now on", x.creaks(0), 63);
        due("from now on", x.creaks(1), 64);
        due("nothing went by", x.count(6), 1);
        x.beats(10);
        due("the first of those to come", x.creaks(3), 1);
        WalkingBridge back = glide("sleep a 0 10;");
        back.beats(2);
        back.strike(0, -10);
        due("awake now, then not, then again", back.creaks(0), 4);
        back.strike(0, 5);
        due("it stays", back.creaks(0), 1);
    }

    private static void creaksMuch() {
        for (int sign = -1; sign <= 1; sign += 2) {
            WalkingBridge x = told("bridge 3 0 0;calm 0;sleep a 2 10;sleep b 2 11;sleep c 2 9;sleep d 1 1;");
            x.strike(2, sign * 10);
            due("just as much", x.creaks(0), 1);
            due("one less", x.creaks(1), 2);
            due("more", x.creaks(2), 1);
            due("of its own cell alone", x.creaks(3), -2);
            WalkingBridge most = told("bridge 2 0 0;calm 0;sleep a 1 9999;sleep b 1 1;");
            for (int i = 0; i < 10; i++) {
                most.strike(1, sign * 999);
            }
            most.strike(1, sign * 8);
            due("9998 of 9999", most.creaks(0), 2);
            most.strike(1, sign);
            due("9999 of 9999", most.creaks(0), 1);
            due("of 1", most.creaks(1), 1);
        }
    }

    private static void creaksWho() {
        WalkingBridge four = glide("sleep a 0 1;sleep b 0 6;sleep c 0 11;sleep d 0 16;");
        for (int sleeper = 0; sleeper < 4; sleeper++) {
            due("creaks(" + sleeper + ")", four.creaks(sleeper), sleeper + 1);
        }
        for (int sleeper : new int[] {MIN, -2, -1, 4, 5, MAX}) {
            due("creaks(" + sleeper + ")", four.creaks(sleeper), NONE);
        }
        WalkingBridge one = glide("sleep a 0 1;");
        due("creaks(0)", one.creaks(0), 1);
        due("creaks(1)", one.creaks(1), NONE);
        tell(one, "calm 0;");
        due("creaks(0) without", one.creaks(0), NONE);
    }

    // ---- lies, fewest ----

    private static void liesArguments() {
        WalkingBridge x = glide("");
        for (int n = 1; n <= 32; n++) {
            due("HIGH by " + n, x.lies(n, 0, 50, 0), 5 * n);
        }
        for (int n : NOT_1_TO_32) {
            for (int k = 0; k <= 3; k++) {
                due("n " + n, x.lies(n, k, 50, 0), NONE);
            }
        }
        for (int k : new int[] {MIN, -3, -2, -1, 4, 5, MAX}) {
            due("k " + k, x.lies(1, k, 50, 0), NONE);
        }
        for (int calm : NO_CALM) {
            due("calm " + calm, x.lies(1, 1, calm, 0), NONE);
            due("calm " + calm + " of none", x.lies(1, 0, calm, 0), NONE);
        }
        for (int what : new int[] {MIN, -2, -1, 4, 5, MAX}) {
            for (int k = 0; k <= 3; k++) {
                due("what " + what, x.lies(1, k, 50, what), NONE);
            }
        }
        WalkingBridge struck = told("bridge 4 0 0;calm 0;");
        struck.strike(2, 200);
        int[][] due = {{200, 200}, {198, 2}, {196, 0}, {194, 0}};
        for (int k = 0; k <= 3; k++) {
            due(k + " of calm 1", struck.lies(1, k, 1, 0), due[k][0]);
            due(k + " of calm 99", struck.lies(1, k, 99, 0), due[k][1]);
        }
        due("nobody came", struck.count(2), 0);
        due("calm", struck.cell(2, 4), 0);
    }

    private static void liesWhat() {
        WalkingBridge x = told("bridge 4 0 0;calm 0;");
        x.strike(2, 200);
        for (int k = 0; k <= 3; k++) {
            for (int what = 1; what <= 3; what++) {
                due("CELL " + what + " of " + k, x.lies(1, k, 30, what), what <= k ? 2 : -2);
            }
            due("HIGH of " + k, x.lies(1, k, 30, 0), 200 - 60 * k);
        }
    }

    private static void liesCells() {
        for (int cells : new int[] {2, 12}) {
            WalkingBridge rest = told("bridge " + cells + " 4 4;");
            due("nothing sways", rest.lies(32, 3, 50, 0), 0);
            for (int what = 1; what <= 3; what++) {
                due("of several the first", rest.lies(32, 3, 50, what), 0);
            }
            WalkingBridge last = told("bridge " + cells + " 0 0;calm 0;");
            last.strike(cells - 1, 100);
            due("the last cell", last.lies(1, 1, 50, 1), cells - 1);
            int[] two = {0, cells - 1, cells - 1};
            int[] three = {cells - 1, cells - 1, cells - 1};
            for (int what = 1; what <= 3; what++) {
                due("the third isn't needed: " + what, last.lies(1, 3, 50, what), two[what - 1]);
                due("all three: " + what, last.lies(1, 3, 30, what), three[what - 1]);
            }
            due("two are at one", last.lies(1, 2, 50, 1), cells - 1);
            due("two are at one", last.lies(1, 2, 50, 2), cells - 1);
            due("and still it is", last.lies(1, 2, 50, 0), 0);
        }
        WalkingBridge both = told("bridge 5 0 0;calm 0;");
        both.strike(1, 100);
        both.strike(3, -100);
        due("one is of no use: the first", both.lies(1, 1, 50, 1), 0);
        due("one is of no use", both.lies(1, 1, 50, 0), 100);
        due("each at least the one ahead", both.lies(1, 2, 50, 1), 1);
        due("each at least the one ahead", both.lies(1, 2, 50, 2), 3);
        due("HIGH", both.lies(1, 2, 50, 0), 50);
        int[] third = {0, 1, 3};
        for (int what = 1; what <= 3; what++) {
            due("a third: " + what, both.lies(1, 3, 50, what), third[what - 1]);
        }
        both.strike(3, -20);
        int[] more = {1, 3, 3};
        for (int what = 1; what <= 3; what++) {
            due("where it sways more: " + what, both.lies(1, 3, 40, what), more[what - 1]);
        }
        due("HIGH then", both.lies(1, 3, 40, 0), 60);
    }

    private static void liesNinth() {
        for (int there = 5; there <= 8; there++) {
            WalkingBridge x = told("bridge 4 0 0;calm 0;fat f 0 1;");
            fats(x, 0, there - 1);
            x.strike(2, 100);
            due("there", x.count(2), there);
            for (int k = 0; k <= 3; k++) {
                due(k + " more than " + there, x.lies(1, k, 10, 0), there + k <= 8 ? 100 - 10 * k : NONE);
            }
            if (there < 8) {
                due("the first cell", x.lies(1, 1, 10, 1), 2);
            }
        }
    }

    private static void fewestNinth() {
        int[] due = {3, 2, 1, 0};
        for (int there = 5; there <= 8; there++) {
            WalkingBridge x = told("bridge 4 0 0;calm 0;fat f 0 1;");
            fats(x, 0, there - 1);
            x.strike(2, 100);
            int most = due[there - 5];
            due("so many can come to " + there, x.fewest(1, 10, 100 - 10 * most), most);
            due("one more can't", x.fewest(1, 10, 99 - 10 * most), -2);
            due("none needed", x.fewest(1, 10, 100), 0);
        }
    }

    private static void fewestK() {
        WalkingBridge x = told("bridge 4 0 0;calm 0;");
        x.strike(2, 200);
        int[] bounds = {100000, 201, 200, 199, 181, 180, 179, 161, 160, 159, 141, 140, 139, 1, 0};
        int[] due = {0, 0, 0, 1, 1, 1, 2, 2, 2, 3, 3, 3, -2, -2, -2};
        for (int i = 0; i < bounds.length; i++) {
            due("fewest(1, 10, " + bounds[i] + ")", x.fewest(1, 10, bounds[i]), due[i]);
        }
        due("at rest", told("bridge 4 4 4;").fewest(32, 1, 0), 0);
        WalkingBridge most = told("bridge 2 0 0;calm 0;");
        for (int i = 0; i < 101; i++) {
            most.strike(1, 999);
        }
        due("as high as can be", most.fewest(1, 1, 100000), 0);
        due("one less", most.fewest(1, 1, 99999), 1);
        due("one less behind all", most.fewest(32, 1, 99999), -2);
        due("0 of it", most.fewest(32, 50, 0), 2);
        due("nobody came", most.count(2), 0);
    }

    private static void fewestArguments() {
        WalkingBridge x = glide("");
        due("n 1", x.fewest(1, 50, 5), 0);
        due("n 1", x.fewest(1, 50, 4), 1);
        due("n 32", x.fewest(32, 50, 160), 0);
        due("n 32", x.fewest(32, 1, 159), -2);
        due("calm 99", x.fewest(1, 99, 1), 1);
        due("calm 1", x.fewest(1, 1, 4), -2);
        for (int n : NOT_1_TO_32) {
            due("n " + n, x.fewest(n, 50, 1000), NONE);
        }
        for (int calm : NO_CALM) {
            due("calm " + calm, x.fewest(1, calm, 1000), NONE);
        }
        for (int bound : new int[] {MIN, -2, -1, 100001, 100002, MAX}) {
            due("bound " + bound, x.fewest(1, 50, bound), NONE);
        }
        due("bound 0", x.fewest(1, 50, 0), 2);
        due("bound 100000", x.fewest(1, 50, 100000), 0);
    }

    // ---- forbidden, cancel, owes ----

    private static void forbiddenBeats() {
        for (int beat = 2; beat <= 9; beat++) {
            WalkingBridge x = told("bridge 2 0 0;calm 0;law push (time=" + beat + ")*50;");
            due("beat " + beat, x.forbidden(beat + 1, 10, 0), beat);
            due("its HIGH", x.forbidden(beat + 1, 10, 1), 50);
            due("none by " + beat + " TIMES", x.forbidden(beat, 10, 1), 0);
            due("the least of all", x.forbidden(beat, 10, 0), 1);
        }
        WalkingBridge ten = told("bridge 2 0 0;calm 0;law push (time=10)*50;");
        due("no BEAT of ten", ten.forbidden(11, 10, 0), 1);
        due("no BEAT of ten", ten.forbidden(11, 10, 1), 0);
        WalkingBridge some = told("bridge 7 0 0;calm 0;law push (time=6)*50;");
        due("of 1, 2, 3, 6 the least", some.forbidden(7, 10, 0), 1);
        WalkingBridge three = told("bridge 4 0 0;calm 0;law push (time=6)*50;");
        due("of 2, 3, 6 the least", three.forbidden(7, 10, 0), 2);
        WalkingBridge up = told("bridge 2 0 0;calm 0;law push 0-(time=4)*50-(time=3)*49;");
        due("without sign", up.forbidden(5, 10, 0), 3);
        due("without sign", up.forbidden(5, 10, 1), 98);
    }

    private static void forbiddenRest() {
        WalkingBridge x = told("bridge 3 0 0;calm 0;hold 99;heat 3;walker a 30 1 0 stay 0;law push weight+warm*10;law side 50;");
        due("nobody else", x.forbidden(1, 10, 1), 40);
        x.strike(1, 500);
        x.beats(7);
        due("planks are lost", x.count(10) > 0, true);
        due("at rest", x.forbidden(1, 10, 1), 40);
        due("at rest", x.forbidden(3, 10, 1), 120);
        due("and by the same BEAT", x.forbidden(3, 10, 0), 1);
        x.fat(0, 50);
        due("FAT ones as now", x.forbidden(1, 10, 1), 20);
        x.undo();
        due("as it was", x.count(6), 7);
        WalkingBridge time = told("bridge 2 0 0;calm 0;law push (time=0)*50;");
        time.beats(5);
        due("TIME 0", time.forbidden(1, 10, 1), 50);
        WalkingBridge ways = told("bridge 3 0 0;calm 0;law push (place=0)*9+(place=2)*80;");
        due("to the right", ways.forbidden(1, 10, 1), 9);
        due("a CELL on by each", ways.forbidden(2, 10, 1), 18);
        due("at the last CELL", ways.forbidden(3, 10, 1), 80);
        WalkingBridge off = told("bridge 2 0 0;calm 0;law push (place=1)*10;");
        due("off the end", off.forbidden(4, 10, 1), 30);
        WalkingBridge lost = told("bridge 2 0 0;calm 0;hold 5;law push 10;");
        due("PLANKS can be LOST on the way", lost.forbidden(2, 10, 1), 20);
        WalkingBridge kept = told("bridge 2 0 0;calm 0;");
        kept.strike(1, 9);
        kept.keep();
        kept.blow(true);
        due("without a law", kept.forbidden(1, 30, 1), 30);
        due("nothing changed", kept.cell(1, 1), 9);
    }

    private static void forbiddenArguments() {
        WalkingBridge x = told("bridge 12 0 0;calm 0;law push (time=63)*50+(time=0)*weight;");
        due("n 1, WEIGHT 1", x.forbidden(1, 1, 1), 1);
        due("n 1, WEIGHT 30", x.forbidden(1, 30, 1), 30);
        due("n 63", x.forbidden(63, 1, 1), 63);
        due("n 63", x.forbidden(63, 1, 0), 1);
        WalkingBridge last = told("bridge 12 0 0;calm 0;law push (time=63)*50;");
        due("n 64: 7 and 9 are on by then", last.forbidden(64, 1, 0), 7);
        due("n 64", last.forbidden(64, 1, 1), 50);
        due("n 63", last.forbidden(63, 1, 1), 0);
        for (int what = 0; what <= 1; what++) {
            for (int n : NOT_1_TO_64) {
                due("n " + n, x.forbidden(n, 10, what), NONE);
            }
            for (int weight : new int[] {MIN, -30, -1, 0, 31, 32, MAX}) {
                due("WEIGHT " + weight, x.forbidden(1, weight, what), NONE);
            }
        }
        for (int what : new int[] {MIN, -2, -1, 2, 3, MAX}) {
            due("what " + what, x.forbidden(1, 10, what), NONE);
        }
    }

    private static final String CROWD = "bridge 2 0 0;calm 0;hold 90;walker a 10 1 0 stay 0;walker b 4 1 0 stay 0;"
            + "walker c 3 1 0 stay 1;walker d 6 1 0 stay 0;";

    private static void cancelRest() {
        WalkingBridge x = told(CROWD + "law push (weight=10)*10-(weight=4)*4+(weight=3)*3+(weight=6)*(time=0)*6;");
        due("one up, one down", x.cancel(0, 1, 1), 10 + 4 - 6);
        due("the other way about", x.cancel(1, 0, 1), 8);
        due("apart", x.cancel(0, 2, 1), 3);
        due("together", x.cancel(0, 3, 1), 0);
        x.beats(9);
        x.strike(1, 500);
        x.beats(1);
        x.off(0);
        due("planks are lost", x.count(10), 2);
        due("nobody GONE, no PLANKS LOST", x.cancel(0, 1, 1), 8);
        due("TIME 0", x.cancel(3, 1, 1), 6 + 4 - 2);
        due("nobody else", x.cancel(2, 1, 1), 3);
        x.fat(0, 50);
        due("FAT ones as they are now", x.cancel(0, 1, 1), 5 + 2 - 3);
        x.undo();
        due("and as they were", x.cancel(0, 1, 1), 8);
        due("a is still GONE", x.look(0, 4), 2);
        WalkingBridge more = told("bridge 2 0 0;calm 0;hold 15;walker a 9 1 0 stay 0;walker b 9 1 1 stay 0;");
        due("below 0, too", more.cancel(0, 1, 2), 27 + 9 - 36);
        WalkingBridge less = told("bridge 3 0 0;calm 0;walker a 9 1 0 stay 0;walker b 9 1 0 stay 0;law push weight*(1+2*(sway<>0));");
        due("as each pushes", less.cancel(0, 1, 2), 45 + 45 - 90);
        WalkingBridge below = told("bridge 2 0 0;calm 0;walker a 9 1 0 stay 0;walker b 5 1 1 stay 0;law push (weight=9)*(time=0)+(weight=5)*(sway<>0)*50;");
        due("with both it is more", below.cancel(0, 1, 2), 2 + 0 - 52);
    }

    private static void cancelArguments() {
        StringBuilder six = new StringBuilder("bridge 2 0 0;calm 0;law push (time=63)*weight*2+(time=0)*(weight=6);");
        for (int i = 0; i < 6; i++) {
            six.append("walker ").append((char) ('a' + i)).append(' ').append(i + 1).append(" 1 0 stay ").append(i % 2).append(';');
        }
        WalkingBridge x = told(six.toString());
        due("n 64", x.cancel(0, 1, 64), 2 + 4 - 4);
        due("n 63", x.cancel(0, 1, 63), 0);
        due("the first and the last", x.cancel(0, 5, 64), 2 + (12 + 64) - (12 + 64));
        due("the last and the first", x.cancel(5, 0, 64), 2);
        due("n 1", x.cancel(5, 4, 1), 0);
        for (int n : NOT_1_TO_64) {
            due("n " + n, x.cancel(0, 1, n), MIN);
        }
        for (int no : new int[] {MIN, -2, -1, 6, 7, 32, MAX}) {
            due("one " + no, x.cancel(no, 1, 5), MIN);
            due("other " + no, x.cancel(1, no, 5), MIN);
            due("both " + no, x.cancel(no, no, 5), MIN);
        }
        for (int w = 0; w < 6; w++) {
            due("alike " + w, x.cancel(w, w, 5), MIN);
        }
        due("without walkers", new WalkingBridge().cancel(0, 1, 5), MIN);
    }

    private static void owesLeast() {
        WalkingBridge x = told(CROWD + "law push (weight=10)*10-(weight=4)*4+(weight=3)*3;");
        due("who pushes down", x.owes(0, 1), 6 - 4);
        due("who pushes against it: 0 at least", x.owes(1, 1), 0);
        due("who pushes less elsewhere", x.owes(2, 1), 0);
        due("who pushes nothing", x.owes(3, 1), 0);
        x.off(0);
        due("who is GONE owes nothing", x.owes(0, 64), 0);
        due("then b", x.owes(1, 1), 1);
        x.undo();
        x.beats(3);
        due("as it is now", x.owes(0, 1), 36 + 24 - (36 + 18 - 4));
        due("nobody went", x.look(0, 4), 1);
        WalkingBridge gale = told("bridge 2 0 0;calm 0;gale 99;walker a 10 1 0 stay 0;");
        gale.blow(true);
        due("no gale blows", gale.owes(0, 1), 10);
    }

    private static void owesArguments() {
        StringBuilder six = new StringBuilder("bridge 2 0 0;calm 0;law push (time=63)*weight;");
        for (int i = 0; i < 6; i++) {
            six.append("walker ").append((char) ('a' + i)).append(' ').append(i + 1).append(" 1 0 stay 0;");
        }
        WalkingBridge x = told(six.toString());
        for (int w = 0; w < 6; w++) {
            due("n 64 of " + w, x.owes(w, 64), w + 1);
            due("n 63 of " + w, x.owes(w, 63), 0);
            for (int n : NOT_1_TO_64) {
                due("n " + n, x.owes(w, n), NONE);
            }
        }
        for (int no : new int[] {MIN, -2, -1, 6, 7, 32, MAX}) {
            due("walker " + no, x.owes(no, 5), NONE);
        }
        due("without walkers", new WalkingBridge().owes(0, 5), NONE);
        WalkingBridge one = told("bridge 2 0 0;calm 0;walker a 7 1 0 stay 0;");
        due("n 1", one.owes(0, 1), 7);
        due("walker 1", one.owes(1, 1), NONE);
    }

    // ---- pump, keeper ----

    private static void pumpBits() {
        WalkingBridge x = told("bridge 2 0 0;calm 0;");
        for (int n = 1; n <= 7; n++) {
            due("all of " + n, x.pump(1, 3, n, 0), 3 * n * (n + 1) / 2);
            due("all of " + n, x.pump(1, 3, n, 1), (1 << n) - 1);
        }
        x.strike(1, 5);
        due("as much either way", x.pump(1, 10, 1, 0), 5);
        due("as much either way: the least", x.pump(1, 10, 1, 1), 0);
        due("more if pushed", x.pump(1, 11, 1, 0), 6);
        due("more if pushed", x.pump(1, 11, 1, 1), 1);
        due("more if not", x.pump(1, 9, 1, 1), 0);
        due("both times", x.pump(1, 10, 2, 0), 20);
        due("both times", x.pump(1, 10, 2, 1), 3);
        WalkingBridge still = told("bridge 2 0 0;calm 1;fat f 0 99;");
        still.strike(1, 7);
        due("pushing is of no use", still.pump(0, 99, 7, 0), 49);
        due("pushing is of no use: the least bits", still.pump(0, 99, 7, 1), 0);
        WalkingBridge order = told("bridge 2 9 0;calm 0;");
        due("all but the first TIME", order.pump(0, 64, 4, 1), 14);
        WalkingBridge once = told("bridge 2 0 0;calm 0;walker a 10 1 0 stay 0;law push (sway=0-9)*99;");
        due("pushed by the first, then the walker does", once.pump(0, 9, 2, 1), 3);
        due("pushed by the first, then the walker does", once.pump(0, 9, 2, 0), 9 + 18 + 99);
        WalkingBridge falls = told("bridge 2 0 0;calm 0;");
        falls.strike(0, 9);
        falls.beats(3);
        falls.strike(0, -18);
        due("behind the last, not ever", falls.pump(1, 1, 2, 0), 9);
        WalkingBridge of = told("bridge 3 0 0;calm 0;");
        of.strike(2, 40);
        due("of all CELLS", of.pump(0, 9, 1, 0), 40);
        due("of all CELLS: the least bits", of.pump(0, 9, 1, 1), 0);
    }

    private static void pumpArguments() {
        for (int cells : new int[] {2, 12}) {
            WalkingBridge x = told("bridge " + cells + " 0 0;calm 0;");
            for (int what = 0; what <= 1; what++) {
                due("force 1, n 1", x.pump(0, 1, 1, what), 1);
                due("force 99, n 7", x.pump(cells - 1, 99, 7, what), what == 0 ? 99 * 28 : 127);
                for (int cell : new int[] {MIN, -2, -1, cells, cells + 1, MAX}) {
                    due("cell " + cell, x.pump(cell, 5, 2, what), NONE);
                }
                for (int force : new int[] {MIN, -99, -1, 0, 100, 101, MAX}) {
                    due("force " + force, x.pump(0, force, 2, what), NONE);
                }
                for (int n : new int[] {MIN, -7, -1, 0, 8, 9, 31, 32, 33, 64, MAX}) {
                    due("n " + n, x.pump(0, 5, n, what), NONE);
                }
            }
            for (int what : new int[] {MIN, -2, -1, 2, 3, MAX}) {
                due("what " + what, x.pump(0, 5, 2, what), NONE);
            }
            due("nothing went by", x.count(6), 0);
        }
    }

    private static void keeperCells() {
        for (int cells : new int[] {2, 12}) {
            WalkingBridge x = told("bridge " + cells + " 0 0;calm 0;");
            due("where they push", x.keeper(cells - 1, 10, 1, 50, 0), cells - 1);
            due("what is left", x.keeper(cells - 1, 10, 1, 50, 1), 5);
            due("where they push", x.keeper(0, 10, 1, 50, 0), 0);
        }
        WalkingBridge high = told("bridge 4 0 0;calm 0;");
        high.strike(3, 50);
        high.beats(1);
        high.strike(3, -50);
        due("of no use anywhere: the first", high.keeper(1, 10, 2, 50, 0), 0);
        due("of no use anywhere", high.keeper(1, 10, 2, 50, 1), 50);
        WalkingBridge two = told("bridge 4 0 0;calm 0;");
        two.strike(1, 40);
        two.strike(3, 40);
        two.strike(2, 30);
        due("of several the first", two.keeper(0, 10, 1, 50, 0), 0);
        two.strike(3, 1);
        due("the greatest least", two.keeper(0, 10, 1, 50, 0), 3);
        due("the greatest least", two.keeper(0, 10, 1, 50, 1), 40);
        due("nobody came", two.count(2), 0);
    }

    private static void keeperArguments() {
        WalkingBridge x = told("bridge 3 0 0;calm 0;");
        due("force 1, n 1, calm 1", x.keeper(1, 1, 1, 1, 1), 1);
        due("force 99, n 5, calm 99", x.keeper(2, 99, 5, 99, 0), 2);
        due("force 99, n 5, calm 99: cut towards 0", x.keeper(2, 99, 5, 99, 1), 1 + 1 + 1 + 1 + 1);
        due("force 99, n 5, calm 1", x.keeper(2, 99, 5, 1, 1), 99 + 197 + 294 + 390 + 485);
        for (int what = 0; what <= 1; what++) {
            for (int cell : new int[] {MIN, -2, -1, 3, 4, MAX}) {
                due("cell " + cell, x.keeper(cell, 5, 2, 50, what), NONE);
            }
            for (int force : new int[] {MIN, -99, -1, 0, 100, 101, MAX}) {
                due("force " + force, x.keeper(0, force, 2, 50, what), NONE);
            }
            for (int n : new int[] {MIN, -5, -1, 0, 6, 7, 32, MAX}) {
                due("n " + n, x.keeper(0, 5, n, 50, what), NONE);
            }
            for (int calm : NO_CALM) {
                due("calm " + calm, x.keeper(0, 5, 2, calm, what), NONE);
            }
        }
        for (int what : new int[] {MIN, -2, -1, 2, 3, MAX}) {
            due("what " + what, x.keeper(0, 5, 2, 50, what), NONE);
        }
        fats(x, 0, 7);
        due("7 are FAT", x.keeper(1, 10, 1, 50, 0), 1);
        due("7 are FAT", x.keeper(1, 10, 1, 50, 1), 5);
        fats(x, 0, 1);
        due("8 are FAT", x.keeper(1, 10, 1, 50, 0), NONE);
        due("8 are FAT", x.keeper(1, 10, 1, 50, 1), NONE);
        x.undo();
        due("7 again", x.keeper(1, 10, 1, 50, 1), 5);
    }

    // ---- groans ----

    private static void groanArguments() {
        for (int cells : new int[] {2, 12}) {
            WalkingBridge x = told("bridge " + cells + " 0 0;");
            for (int time : new int[] {MIN, -2, -1, 64, 65, MAX}) {
                due("TIME " + time, x.groan(time, 0, 5, true), NONE);
            }
            for (int cell : new int[] {MIN, -2, -1, cells, cells + 1, MAX}) {
                due("CELL " + cell, x.groan(0, cell, 5, true), NONE);
            }
            for (int much : new int[] {MIN, -2, -1, 100000, 100001, MAX}) {
                due("much " + much, x.groan(0, 0, much, false), NONE);
            }
            due("none is there", x.count(7), 0);
            due("the first", x.groan(0, 0, 0, true), 0);
            due("the last of all", x.groan(63, cells - 1, 99999, false), 1);
            due("two are there", x.count(7), 2);
        }
    }

    private static void mostGroans() {
        WalkingBridge x = told("bridge 2 0 0;");
        for (int i = 0; i < 24; i++) {
            due("groan " + i, x.groan(0, 0, 0, true), i);
        }
        due("a 25th", x.groan(0, 0, 1, true), NONE);
        due("a 25th, a STRIKE", x.unsay(0), NONE);
        due("24", x.count(7), 24);
        due("the 25th isn't there", x.began(), 1);
        WalkingBridge y = told("bridge 2 0 0;");
        y.groan(0, 0, 1, true);
        for (int i = 1; i < 24; i++) {
            due("strike " + i, y.unsay(i - 1), i);
        }
        due("a 25th", y.groan(0, 0, 1, true), NONE);
        due("a 25th, a STRIKE", y.unsay(23), NONE);
        due("24", y.count(7), 24);
        due("the 23rd strike counts, so the first one", y.began(), 1);
        y.known(23);
        due("without the last", y.began(), 0);
    }

    private static void groanTimes() {
        String text = "bridge 2 0 0;calm 0;walker a 30 1 0 stay 1;law push (time=63)*50+(time=0)*20-(time=1)*20;";
        WalkingBridge x = told(text);
        int[][] behind = {{0, 20}, {1, 20}, {2, 20}, {62, 20}, {63, 70}};
        for (int[] one : behind) {
            WalkingBridge y = told(text);
            due("any set", y.began(), 2);
            y.groan(one[0], 1, one[1], true);
            due("so much behind " + one[0], y.began(), 1);
            due("by a", y.set(0), 1);
            y.groan(one[0], 1, one[1] + 1, true);
            due("not more behind " + one[0], y.began(), 0);
        }
        x.beats(30);
        x.strike(1, 99);
        x.off(0);
        x.groan(63, 1, 70, true);
        due("from rest as the TEXT begins", x.set(0), 1);
        due("from rest as the TEXT begins", x.fits(), 1);
        x.fat(1, 50);
        due("FAT ones as now", x.began(), 0);
        x.undo();
        due("as they were", x.began(), 1);
        due("a is still GONE", x.look(0, 4), 2);
    }

    private static void groanMuch() {
        String[] pushes = {"20", "0-20"};
        for (String push : pushes) {
            int[] much = {0, 19, 20, 21, 99999};
            int[] at = {1, 1, 1, 0, 0};
            for (int i = 0; i < much.length; i++) {
                WalkingBridge x = told("bridge 2 0 0;calm 0;walker a 1 1 0 stay 1;law push " + push + ";");
                x.groan(0, 1, much[i], true);
                due("fits, " + much[i] + " at least", x.fits(), at[i]);
                WalkingBridge y = told("bridge 2 0 0;calm 0;walker a 1 1 0 stay 1;law push " + push + ";");
                y.groan(0, 1, much[i], false);
                due("fits, less than " + much[i], y.fits(), 1 - at[i]);
                WalkingBridge z = told("bridge 2 0 0;calm 0;walker a 1 1 0 stay 1;law push " + push + ";");
                z.groan(0, 0, much[i], true);
                due("fits, " + much[i] + " elsewhere", z.fits(), much[i] == 0 ? 1 : 0);
            }
        }
        WalkingBridge most = told("bridge 2 0 0;calm 0;walker a 1 1 0 stay 1;walker b 1 1 0 stay 1;walker c 1 1 0 stay 1;"
                + "walker d 1 1 0 stay 1;walker e 1 1 0 stay 1;walker f 1 1 0 stay 1;law push 99;");
        most.groan(63, 1, 99999, true);
        due("99999 at the bound", most.fits(), 1);
        due("by 48 TIMES and more of one, fewer of more", most.began() > 1, true);
    }

    private static void unsays() {
        WalkingBridge x = told("bridge 2 0 0;");
        for (int groan : new int[] {MIN, -2, -1, 0, 1, 24, MAX}) {
            due("unsay(" + groan + ") of none", x.unsay(groan), NONE);
        }
        due("groan", x.groan(0, 0, 1, true), 0);
        for (int groan : new int[] {MIN, -2, -1, 1, 2, 23, 24, MAX}) {
            due("unsay(" + groan + ") of one", x.unsay(groan), NONE);
        }
        due("one is there", x.count(7), 1);
        due("unsay(0)", x.unsay(0), 1);
        due("unsay(2)", x.unsay(2), NONE);
        due("unsay(1)", x.unsay(1), 2);
        due("unsay(0) again", x.unsay(0), 3);
        due("count", x.count(7), 4);
    }

    /** One groan that never was so, struck and struck again: how many sets are left then. */
    private static void strikes() {
        WalkingBridge x = told("bridge 2 0 0;");
        x.groan(0, 0, 1, true);
        due("it counts", x.began(), 0);
        x.unsay(0);
        due("struck by 1", x.began(), 1);
        x.unsay(1);
        due("1 is struck by 2", x.began(), 0);
        x.unsay(2);
        due("2 is struck by 3", x.began(), 1);
        x.unsay(3);
        due("3 is struck by 4", x.began(), 0);
        x.unsay(0);
        due("struck by 5, too", x.began(), 1);
        x.unsay(5);
        due("5 is struck by 6", x.began(), 0);
        x.unsay(4);
        due("4 is struck by 7: 3 counts, 2 doesn't, 1 does", x.began(), 1);
        int[] by = {1, 0, 1, 0, 1, 0, 1, 0, 1};
        for (int n = 0; n <= 8; n++) {
            due("known(" + n + ")", x.known(n), true);
            due("by " + n, x.began(), by[n]);
        }
        WalkingBridge twice = told("bridge 2 0 0;");
        twice.groan(0, 0, 1, true);
        twice.unsay(0);
        twice.unsay(0);
        due("struck twice", twice.began(), 1);
        twice.unsay(1);
        due("one of both is struck", twice.began(), 1);
        twice.unsay(2);
        due("both are", twice.began(), 0);
        WalkingBridge other = told("bridge 2 0 0;");
        other.groan(0, 0, 0, true);
        other.groan(0, 0, 1, true);
        other.unsay(0);
        due("another one is struck", other.began(), 0);
        other.unsay(1);
        due("both are struck", other.began(), 1);
    }

    private static void knowns() {
        WalkingBridge x = told("bridge 2 0 0;");
        for (int n : new int[] {MIN, -3, -2, 1, 2, 24, MAX}) {
            due("known(" + n + ") of none", x.known(n), false);
        }
        due("known(0) of none", x.known(0), true);
        due("by 0", x.count(8), 0);
        x.groan(0, 0, 1, true);
        due("those to come don't count", x.began(), 1);
        due("by 0", x.count(8), 0);
        for (int n : new int[] {MIN, -3, -2, 2, 3, MAX}) {
            due("known(" + n + ") of one", x.known(n), false);
            due("by 0 still", x.count(8), 0);
            due("by 0 still", x.began(), 1);
        }
        due("known(1)", x.known(1), true);
        due("by 1", x.count(8), 1);
        due("by 1", x.began(), 0);
        x.unsay(0);
        due("by 1 still", x.count(8), 1);
        due("by 1 still", x.began(), 0);
        due("known(-1)", x.known(-1), true);
        due("by all", x.began(), 1);
        x.unsay(1);
        due("also those to come", x.began(), 0);
        due("known(4)", x.known(4), false);
        due("known(3)", x.known(3), true);
        due("by 3", x.count(8), 3);
        for (int i = 3; i < 24; i++) {
            x.unsay(i - 1);
        }
        due("known(25)", x.known(25), false);
        due("known(24)", x.known(24), true);
        due("by 24", x.count(8), 24);
        WalkingBridge first = told("bridge 2 0 0;");
        first.groan(0, 0, 1, true);
        due("all at first", first.began(), 0);
    }

    private static final String SIX = "bridge 2 0 0;calm 0;walker a 1 1 0 stay 0;walker b 2 1 0 stay 0;walker c 4 1 0 stay 0;"
            + "walker d 8 1 0 stay 0;walker e 16 1 0 stay 0;walker f 30 1 0 stay 0;law push weight+(weight=30)*2;";

    private static void beganSets() {
        WalkingBridge none = told("bridge 2 0 0;");
        due("the empty set alone", none.began(), 1);
        due("the empty set", none.set(0), 0);
        due("no other", none.set(1), -2);
        none.groan(0, 0, 0, false);
        due("not even that", none.began(), 0);
        WalkingBridge one = told("bridge 2 0 0;walker a 1 1 0 right;");
        due("two sets of one", one.began(), 2);
        WalkingBridge six = told(SIX);
        due("64 sets of six", six.began(), 64);
        for (int much : new int[] {1, 32, 62, 63}) {
            six.groan(0, 0, much, true);
            due("all that push " + much + " at least", six.began(), 64 - much);
            due("the least", six.set(0), much);
        }
        due("all six", six.set(0), 63);
        six.groan(0, 0, 63, false);
        due("none", six.began(), 0);
        WalkingBridge less = told(SIX);
        for (int much : new int[] {63, 32, 2, 1}) {
            less.groan(0, 0, much, false);
            due("all that push less than " + much, less.began(), much);
        }
        WalkingBridge exact = told(SIX);
        exact.groan(0, 0, 37, true);
        exact.groan(0, 0, 38, false);
        due("one set", exact.began(), 1);
        due("its bits", exact.set(0), 37);
    }

    private static void sets() {
        WalkingBridge x = told(SIX);
        for (int k = 0; k < 64; k++) {
            due("set(" + k + ")", x.set(k), k);
        }
        for (int k : new int[] {64, 65, MAX}) {
            due("set(" + k + ")", x.set(k), -2);
        }
        for (int k : new int[] {-1, -2, -64, MIN}) {
            due("set(" + k + ")", x.set(k), NONE);
        }
        x.groan(0, 0, 60, true);
        for (int k = 0; k < 4; k++) {
            due("set(" + k + ") of four", x.set(k), 60 + k);
        }
        due("set(4) of four", x.set(4), -2);
        x.groan(0, 0, 60, false);
        due("set(0) of none", x.set(0), -2);
        due("set(-1) of none", x.set(-1), NONE);
    }

    private static void sures() {
        WalkingBridge x = told(SIX);
        for (int w = 0; w < 6; w++) {
            due("in some: " + w, x.sure(w), 2);
        }
        x.groan(0, 0, 40, true);
        x.groan(0, 0, 42, false);
        int[] due = {2, 0, 0, 1, 0, 1};
        for (int w = 0; w < 6; w++) {
            due("of 40 and 41: " + w, x.sure(w), due[w]);
        }
        for (int w : new int[] {MIN, -2, -1, 6, 7, 32, MAX}) {
            due("sure(" + w + ")", x.sure(w), NONE);
        }
        x.groan(0, 0, 63, true);
        for (int w = 0; w < 6; w++) {
            due("there are none: " + w, x.sure(w), -2);
        }
        due("sure(6) of none", x.sure(6), NONE);
        due("sure(-1) of none", x.sure(-1), NONE);
        due("without walkers", new WalkingBridge().sure(0), NONE);
        WalkingBridge apart = told(SIX);
        apart.groan(0, 0, 31, true);
        apart.groan(0, 0, 33, false);
        due("31 and 32", apart.began(), 2);
        for (int w = 0; w < 6; w++) {
            due("in one of both: " + w, apart.sure(w), 2);
        }
        WalkingBridge every = told(SIX);
        every.groan(0, 0, 63, true);
        WalkingBridge nobody = told(SIX);
        nobody.groan(0, 0, 1, false);
        for (int w = 0; w < 6; w++) {
            due("all six alone: " + w, every.sure(w), 1);
            due("the empty set alone: " + w, nobody.sure(w), 0);
        }
        due("in some of both", told("walker a 1 1 0 stay 0;").sure(0), 2);
        WalkingBridge all = told("bridge 2 0 0;calm 0;walker a 1 1 0 stay 0;");
        all.groan(0, 0, 1, true);
        due("in the only one", all.sure(0), 1);
        WalkingBridge not = told("bridge 2 0 0;calm 0;walker a 1 1 0 stay 0;");
        not.groan(0, 0, 1, false);
        due("not in the only one", not.sure(0), 0);
    }

    private static void fitsBits() {
        String pair = "bridge 2 0 0;calm 0;walker a 10 1 0 stay 0;walker b 5 1 0 stay 0;";
        String[] mays = {"", "may x 1;", "may x 1;may y 2;", "may x 1;may y 2;may z 3;"};
        for (int n = 0; n <= 3; n++) {
            WalkingBridge x = told(pair + mays[n] + "law push 4;");
            due("all of " + n, x.fits(), (2 << n) - 1);
            for (int may = 0; may < n; may++) {
                WalkingBridge y = told(pair + mays[n] + "law push 4;");
                y.groan(0, 0, 2 * (may + 1), true);
                y.groan(0, 0, 2 * (may + 1) + 1, false);
                due("MAY " + may + " of " + n, y.fits(), 1 << may);
            }
            x.groan(0, 0, 8, true);
            due("the law as told, behind " + n, x.fits(), 1 << n);
            x.groan(0, 0, 9, true);
            due("none of " + n, x.fits(), 0);
            WalkingBridge without = told(pair + mays[n]);
            without.groan(0, 0, 15, true);
            due("WEIGHT without a law, behind " + n, without.fits(), 1 << n);
        }
        WalkingBridge off = told(pair + "may x weight;law push 1;");
        off.groan(0, 0, 15, true);
        off.off(0);
        due("for all WALKERS", off.fits(), 1);
        off.known(0);
        due("by none", off.fits(), 3);
        WalkingBridge error = told(pair + "may x 1/0;law push 1;");
        error.groan(0, 0, 15, true);
        due("WEIGHT with an ERROR", error.fits(), 1);
    }

    // ---- gales, tried ----

    private static void galesArguments() {
        WalkingBridge x = told("bridge 2 0 0;calm 0;gale 99;seed 3;");
        for (int seed : new int[] {0, 1, MAX - 1, MAX}) {
            due("seed " + seed, x.gales(seed, 1, 99), 10);
            due("seed " + seed, x.gales(seed, 32, 99999), 10);
            due("seed " + seed, x.gales(seed, 32, 0), 0);
        }
        for (int seed : new int[] {MIN, -2, -1}) {
            due("seed " + seed, x.gales(seed, 1, 99), NONE);
        }
        for (int n : NOT_1_TO_32) {
            due("n " + n, x.gales(1, n, 99999), NONE);
        }
        for (int bound : new int[] {MIN, -2, -1, 100000, 100001, MAX}) {
            due("bound " + bound, x.gales(1, 1, bound), NONE);
        }
        due("nothing went by", x.count(6), 0);
        due("it doesn't blow", x.count(11), 0);
        String side = "bridge 2 0 0;calm 0;law push 0;law side 99*(foot*2-1);";
        for (int i = 0; i < 6; i++) {
            side += "walker " + (char) ('a' + i) + " 1 1 0 stay 0;";
        }
        WalkingBridge far = told(side);
        due("90882", far.gales(1, 17, 90882), 10);
        due("90882", far.gales(1, 17, 90881), 0);
        due("99999 of 100000", far.gales(1, 18, 99999), 0);
        WalkingBridge none = told("bridge 2 0 0;");
        due("no gale, all held by 0", none.gales(1, 32, 0), 10);
    }

    /** The answers of gales worked out number by number; nothing but the gale moves a bridge that is not stiff. */
    private static int[] sidesOfGales(int seed, int n, int gale, int cells) {
        int[] most = new int[10];
        long number = seed;
        for (int i = 0; i < 10; i++) {
            int[] speed = new int[cells];
            int[] out = new int[cells];
            for (int time = 0; time < n; time++) {
                for (int c = 0; c < cells; c++) {
                    number = (number * 1103515245L + 12345L) % 2147483648L;
                    speed[c] += number / 65536 % (2 * gale + 1) - gale;
                    out[c] += speed[c];
                    most[i] = Math.max(most[i], Math.abs(out[c]));
                }
            }
        }
        return most;
    }

    private static void galesBounds() {
        for (int seed : new int[] {0, 1, 12345, 65536, MAX}) {
            for (int n : new int[] {1, 2, 7, 32}) {
                for (int gale : new int[] {1, 30, 99}) {
                    WalkingBridge x = told("bridge 3 0 0;calm 0;gale " + gale + ";");
                    int[] sides = sidesOfGales(seed, n, gale, 3);
                    for (int one : sides) {
                        int held = 0;
                        int less = 0;
                        for (int side : sides) {
                            held += side <= one ? 1 : 0;
                            less += side < one ? 1 : 0;
                        }
                        due("gales(" + seed + ", " + n + ", " + one + ") of gale " + gale, x.gales(seed, n, one), held);
                        if (one > 0) {
                            due("gales(" + seed + ", " + n + ", " + (one - 1) + ")", x.gales(seed, n, one - 1), less);
                        }
                    }
                }
            }
        }
        WalkingBridge ever = told("bridge 2 0 0;calm 0;walker a 1 1 0 stay 0;law side 9*(time=0)+18*(time=1)+18*(time=2);");
        due("behind any TIME, not only the last", ever.gales(1, 2, 8), 0);
        due("behind any TIME", ever.gales(1, 2, 9), 10);
        due("the side falls again", ever.tried(8, 0, 0), 0);
        WalkingBridge goesOn = told("bridge 2 0 0;calm 0;gale 9;seed 5;walker a 1 9 0 stay 0;law side 90;");
        goesOn.beats(1);
        due("from now on", goesOn.gales(1, 1, 180 - 10), 0);
        due("from now on", goesOn.gales(1, 1, 180 + 9), 10);
        WalkingBridge left = told("bridge 2 0 0;calm 0;walker a 1 9 0 stay 0;law side 0-90;");
        due("without sign", left.gales(1, 1, 89), 0);
        due("without sign", left.gales(1, 1, 90), 10);
        WalkingBridge up = told("bridge 2 0 0;calm 0;walker a 30 1 0 stay 0;");
        due("UP doesn't matter", up.gales(1, 32, 0), 10);
    }

    private static void triedArguments() {
        WalkingBridge x = glide("walker a 1 1 0 stay 3;walker b 1 1 0 stay 3;law push 0;law side 0;");
        for (int what = 0; what <= 11; what++) {
            boolean up = what < 6;
            for (int n : new int[] {0, 1, 2, 63, 64}) {
                due("tried(" + what + ", 0, " + n + ")", x.tried(what, 0, n), up ? 5 * n : 0);
            }
            for (int n : new int[] {MIN, -64, -2, -1, 65, 66, MAX}) {
                due("tried(" + what + ", 0, " + n + ")", x.tried(what, 0, n), NONE);
            }
            boolean one = what == 3 || what == 9;
            due("tried(" + what + ", 1, 1)", x.tried(what, 1, 1), one ? (up ? 5 : 0) : NONE);
            for (int i : new int[] {MIN, -2, -1, 2, 3, MAX}) {
                due("tried(" + what + ", " + i + ", 1)", x.tried(what, i, 1), NONE);
            }
        }
        for (int what : new int[] {MIN, -6, -3, -2, -1, 12, 13, 15, MAX}) {
            due("tried(" + what + ", 0, 1)", x.tried(what, 0, 1), NONE);
        }
        WalkingBridge none = new WalkingBridge();
        for (int what = 0; what <= 11; what++) {
            due("without walkers: " + what, none.tried(what, 0, 5), what % 6 == 3 ? NONE : 0);
        }
        WalkingBridge six = told(SIX);
        for (int w = 0; w < 6; w++) {
            due("without " + w, six.tried(3, w, 1), 63 - (1 << w));
        }
        due("no seventh", six.tried(3, 6, 1), NONE);
    }

    private static void triedKinds() {
        WalkingBridge x = told("bridge 2 8 8;calm 0;heat 8;gale 50;seed 1;walker a 10 1 0 stay 0;walker b 4 1 0 stay 1;"
                + "law push weight+warm;law side weight;fat f 0 50;");
        int[] up = {5, 18, 0, 12, 12, 12};
        int[] side = {5, 10, 0, 4, 67, 0};
        long first = (1103515245L + 12345L) % 2147483648L;
        long second = (first * 1103515245L + 12345L) % 2147483648L;
        int pushed = (int) (first / 65536 % 101) - 50 + 10;
        side[4] = Math.max(Math.abs(pushed - pushed * 50 / 100), Math.abs((int) (second / 65536 % 101) - 50 + 4));
        for (int blown = 0; blown < 2; blown++) {
            for (int what = 0; what < 6; what++) {
                due("UP by " + what, x.tried(what, 0, 1), up[what]);
                due("SIDE by " + what, x.tried(what + 6, 0, 1), side[what]);
            }
            x.blow(true);
        }
        due("without b", x.tried(3, 1, 1), 9);
        due("without b", x.tried(9, 1, 1), 5);
        due("the numbers stay", x.tried(10, 0, 1), side[4]);
        x.beats(1);
        due("it blows so, then", x.count(13), side[4]);
        due("0 TIMES on: as it is", x.tried(8, 0, 0), side[4]);
        due("0 TIMES on: as it is", x.tried(2, 0, 0), 12);
        due("nobody went", x.look(0, 4), 1);
        due("nobody went", x.count(2), 1);
        due("it still blows", x.count(11), 1);
        WalkingBridge last = glide("");
        last.beats(4);
        last.strike(0, -10);
        due("at last, not ever", last.tried(5, 0, 3), 5);
        due("without sign", last.tried(5, 0, 9), 25);
        WalkingBridge no = told("bridge 2 9 0;calm 0;heat 9;");
        no.strike(0, 16);
        no.beats(1);
        due("no heat: stiff", no.tried(0, 0, 1), 14);
        due("heat: not stiff", no.tried(1, 0, 1), 32);
        WalkingBridge gone = told("bridge 2 0 0;calm 0;walker a 10 1 0 stay 0;walker b 5 1 0 stay 0;walker c 7 1 5 right;");
        gone.beats(1);
        due("all GONE, also who is to come", gone.tried(2, 0, 6), 15 * 7);
        due("c GONE", gone.tried(3, 2, 6), 15 * 28);
        due("with c, too", gone.tried(0, 0, 6), 15 * 28 + 7 * 2);
    }
}
