/** Each sentence about how a TIME goes by, and what is done meanwhile (==== 2; promises 6 to 14): a test of its own. */
public final class TimesBoundsTest extends Checks {
    private static final int COMING = 0;
    private static final int ON = 1;
    private static final int GONE = 2;

    public static void main(String[] args) {
        about("UP, SIDE and SPEED are 0 at first");
        atRest();
        about("from their TIME on each BEAT");
        firstSteps();
        everyBeat();
        about("the first STEP brings one on; each other one a CELL on by the way (none of stay)");
        ways();
        about("who comes off the end is GONE (and pushes no more)");
        offTheEnd();
        about("whose CELL then has its PLANK LOST, is GONE (and pushes no more)");
        ontoLostPlanks();
        about("UP by E of push (-99 .. 99), downwards as it is");
        pushBounds();
        about("WEIGHT without, with an ERROR; 0 without, with an ERROR");
        withoutLaws();
        about("SIDE's PUSH is more by E of side (-99 .. 99) at its first, third STEP and so on, less by it at the others");
        sideBounds();
        about("NAMES: weight; time; place; sway; foot; warm");
        names();
        about("comparisons are 1 or 0");
        comparisons();
        about("and, or, not are 1 or 0 (what isn't 0 is as 1, both sides are worked out)");
        andOrNot();
        about("/ is cut towards 0");
        divisions();
        about("ERROR: / by 0, a value above 10 to the 12 or below 0 by more than that");
        errors();
        about("A: B { and B }. B: not B | C. C: S [ .. S ]. S: T { ( + | - ) T }. T: P { ( * | / ) P }");
        bindings();
        about("64 KNOTS, 8 '(' open: the longest laws are worked out");
        longestLaws();
        about("a gale above 0, if it BLOWS");
        galeBlows();
        about("a number modulo (twice the gale and 1), less the gale");
        galeNumbers();
        about("the last one (at first the seed) times 1103515245 and 12345, without what is above 31 bits, by 65536");
        chain();
        about("STIFF (of UP: less heat, 0 at least)");
        stiffLessHeat();
        about("what both beside are out, 0 beyond the ends");
        beyondTheEnds();
        about("by 16, cut towards 0");
        cutBySixteen();
        about("then less by CALM of a hundred of itself, cut towards 0");
        calmCut();
        about("CALM: calm and that of all FAT ones there, 100 at most");
        calmAtMost();
        about("SPEED -100000 .. 100000");
        speedBounds();
        about("out -100000 .. 100000");
        outBounds();
        about("PUSH is 0 again");
        pushEnds();
        about("if hold is above 0: a CELL whose UP is above it without sign: its PLANK is LOST (from then on)");
        holds();
        about("An object is used for at most 512 calls after it has been made");
        lastCall();
        about("look: IndexOutOfBoundsException: no such WALKER. NoSuchElementException: no such what");
        looks();
        about("cell: Integer.MIN_VALUE: no such ones");
        cells();
        about("law: Long.MIN_VALUE: an ERROR, no such law, no such ones");
        laws();
        about("beats: NONE, and none does: no such number, behind 9999");
        beats();
        about("was: of the latest 60 ones; NONE: no such one, not kept any more");
        was();
        about("fat: calm 1 .. 99, two may; NONE: no such ones, 8 are there");
        fat();
        about("off: true; false: no such one, it is");
        off();
        about("blow: true; false: it is so");
        blow();
        about("strike: -999 .. 999, within bounds; Integer.MIN_VALUE: no such ones");
        strike();
        finish("the bounds of times hold");
    }

    private static void speeds(String what, WalkingBridge x, int... want) {
        for (int c = 0; c < want.length; c++) {
            due("speed " + what + " of cell " + c, x.cell(c, what.startsWith("side") ? 3 : 1), want[c]);
        }
    }

    private static void atRest() {
        WalkingBridge x = told("bridge 12 9 9;calm 0;heat 1;hold 1;gale 99;seed 9;fat a 3 5;law side 9;law push 9;"
                + "walker a 30 1 60 right;walker b 30 1 60 left;walker c 30 1 60 stay 5;");
        for (int i = 0; i < 2; i++) {
            for (int c = 0; c < 12; c++) {
                for (int what = 0; what < 4; what++) {
                    due("cell(" + c + ", " + what + ")", x.cell(c, what), 0);
                }
                due("plank of " + c, x.cell(c, 5), 0);
                due("who is at " + c, x.cell(c, 6), 0);
            }
            x.beats(60 * (1 - i));
        }
        x.beats(1);
        due("then it sways", x.cell(0, 0), -9);
    }

    private static void firstSteps() {
        for (String way : new String[] {"right", "left", "stay 2"}) {
            for (int beat = 1; beat <= 9; beat += 4) {
                for (int from : new int[] {0, 1, 59, 60}) {
                    WalkingBridge x = told("bridge 4 0 0;walker a 5 " + beat + " " + from + " " + way + ";");
                    x.beats(from);
                    due("ahead of " + from + ", " + way, x.look(0, 4), COMING);
                    due("steps ahead of " + from, x.look(0, 3), 0);
                    due("cell ahead of " + from, x.look(0, 0), NONE);
                    due("no push ahead of " + from, x.count(12), 0);
                    x.beats(1);
                    due("behind " + from + ", " + way, x.look(0, 4), ON);
                    due("steps behind " + from, x.look(0, 3), 1);
                    due("a push behind " + from, x.count(12), 5);
                }
            }
        }
    }

    private static void everyBeat() {
        for (int beat = 1; beat <= 9; beat++) {
            WalkingBridge x = told("bridge 2 0 0;walker a 5 " + beat + " 2 stay 0;");
            x.beats(2);
            for (int step = 1; step <= 4; step++) {
                x.beats(1);
                due("steps of beat " + beat, x.look(0, 3), step);
                x.beats(beat - 1);
                due("steps of beat " + beat + " ahead of the next", x.look(0, 3), step);
            }
        }
    }

    private static void ways() {
        WalkingBridge x = told("bridge 3 0 0;calm 0;walker a 1 1 0 right;walker b 10 1 0 left;walker c 5 1 0 stay 1;"
                + "walker d 7 1 0 stay 0;walker e 9 1 0 stay 2;");
        int[][] where = {{0, 2, 1, 0, 2}, {1, 1, 1, 0, 2}, {2, 0, 1, 0, 2}};
        for (int[] cells : where) {
            x.beats(1);
            for (int w = 0; w < 5; w++) {
                due("where " + w + " is at " + x.count(6), x.look(w, 0), cells[w]);
            }
        }
        speeds("up", x, -1 - 21 - 10, -15 - 1 - 10, -10 - 27 - 1);
        x.beats(3);
        due("c stays", x.look(2, 0), 1);
        due("d stays", x.look(3, 0), 0);
        due("e stays", x.look(4, 0), 2);
    }

    private static void offTheEnd() {
        for (int cells : new int[] {2, 12}) {
            for (String way : new String[] {"right", "left"}) {
                WalkingBridge x = told("bridge " + cells + " 0 0;calm 0;walker a 10 1 0 " + way + ";law side 3;");
                x.beats(cells);
                int last = way.equals("right") ? cells - 1 : 0;
                due("at the last cell", x.look(0, 0), last);
                due("on", x.look(0, 4), ON);
                due("there", x.cell(last, 6), 1);
                x.beats(1);
                due("off the end", x.look(0, 4), GONE);
                due("nowhere", x.look(0, 0), NONE);
                due("not there", x.cell(last, 6), 0);
                due("steps", x.look(0, 3), cells + 1);
                for (int c = 0; c < cells; c++) {
                    due("pushed once at " + c, x.cell(c, 1), -10);
                }
                x.beats(5);
                due("no more steps", x.look(0, 3), cells + 1);
                due("no more pushes", x.cell(last, 1), -10);
                due("no more pushes aside", Math.abs(x.cell(last, 3)), 3);
            }
        }
    }

    private static void ontoLostPlanks() {
        WalkingBridge x = told("bridge 4 0 0;calm 0;hold 30;walker a 10 1 0 right;walker b 10 1 0 left;walker c 9 2 0 stay 1;"
                + "walker d 8 1 5 right;law side 5;");
        x.strike(1, 31 + 9);
        x.beats(1);
        due("the plank of 1 is lost", x.cell(1, 5), 1);
        due("c is still there", x.look(2, 4), ON);
        due("c is counted there", x.cell(1, 6), 1);
        x.beats(1);
        due("a came on to none", x.look(0, 4), GONE);
        due("a doesn't push there", x.cell(1, 1), 31);
        due("a doesn't push there aside", x.cell(1, 3), 5);
        due("b is on", x.look(1, 4), ON);
        due("c's step is not yet", x.look(2, 4), ON);
        x.beats(1);
        due("c's step is there again", x.look(2, 4), GONE);
        due("b comes on to none", x.look(1, 4), GONE);
        due("nobody is there", x.cell(1, 6), 0);
        due("nobody pushes there", x.cell(1, 1), 31);
        due("nobody pushes there aside", x.cell(1, 3), 5);
        x.strike(0, 99);
        x.beats(1);
        due("the plank of 0 is lost", x.cell(0, 5), 1);
        x.beats(1);
        due("d is to come", x.look(3, 4), COMING);
        x.beats(1);
        due("d's first step is on to none", x.look(3, 4), GONE);
        due("d doesn't push", x.cell(0, 1), 99 - 10);
    }

    private static final String[] PUSHES = {"0", "1", "0-1", "98", "99", "100", "101", "9999", "0-98", "0-99", "0-100", "0-101",
        "0-9999", "1000*1000*1000*1000", "0-1000*1000*1000*1000", "8192*8192*64", "8192*8192*64+5", "8192*8192*32", "256"};
    private static final int[] PUSHED = {0, 1, -1, 98, 99, 99, 99, 99, -98, -99, -99, -99, -99, 99, -99, 99, 99, 99, 99};

    private static void pushBounds() {
        for (int i = 0; i < PUSHES.length; i++) {
            WalkingBridge x = told("bridge 2 0 0;calm 0;walker a 7 1 0 stay 1;law push " + PUSHES[i] + ";");
            x.beats(1);
            states("up by " + PUSHES[i], x, 0, -PUSHED[i]);
            x.beats(1);
            speeds("up by " + PUSHES[i], x, 0, -2 * PUSHED[i]);
            due("side by " + PUSHES[i], x.count(13), 0);
        }
        WalkingBridge six = told("bridge 2 0 0;calm 0;walker a 1 1 0 stay 0;walker b 1 1 0 stay 0;walker c 1 1 0 stay 0;"
                + "walker d 1 1 0 stay 0;walker e 1 1 0 stay 0;walker f 1 1 0 stay 0;law push 100;");
        six.beats(1);
        states("up by six", six, -6 * 99, 0);
    }

    private static void withoutLaws() {
        for (int weight : new int[] {1, 30}) {
            WalkingBridge x = told("bridge 2 0 0;calm 0;walker a " + weight + " 1 0 stay 0;");
            x.beats(1);
            states("up", x, -weight, 0);
            states("side", x, 0, 0);
            for (String error : new String[] {"1/0", "1/(foot-1)", "1000*1000*1000*1000+1", "0-1000*1000*1000*1000-1"}) {
                WalkingBridge y = told("bridge 2 0 0;calm 0;walker a " + weight + " 1 0 stay 0;law push " + error + ";law side "
                        + error + ";");
                y.beats(1);
                states("up by " + error, y, -weight, 0);
                states("side", y, 0, 0);
            }
        }
        WalkingBridge onlySide = told("bridge 2 0 0;calm 0;walker a 30 1 0 stay 0;law side 4;");
        onlySide.beats(1);
        states("up", onlySide, -30, 0);
        states("side", onlySide, 4, 0);
        WalkingBridge onlyPush = told("bridge 2 0 0;calm 0;walker a 30 1 0 stay 0;law push 0;may a 9;");
        onlyPush.beats(1);
        states("up", onlyPush, 0, 0);
        states("side", onlyPush, 0, 0);
    }

    private static void sideBounds() {
        for (int i = 0; i < PUSHES.length; i++) {
            WalkingBridge x = told("bridge 2 0 0;calm 0;walker a 7 1 0 stay 1;law push 0;law side " + PUSHES[i] + ";");
            for (int step = 1; step <= 5; step++) {
                x.beats(1);
                speeds("side", x, 0, step % 2 == 1 ? PUSHED[i] : 0);
            }
            due("up by " + PUSHES[i], x.count(12), 0);
        }
        WalkingBridge walks = told("bridge 5 0 0;calm 0;walker a 7 2 1 left;law side 6+foot;");
        walks.beats(10);
        speeds("side", walks, 7, -6, 7, -6, 7);
        WalkingBridge two = told("bridge 2 0 0;calm 0;walker a 7 1 0 stay 0;walker b 7 1 1 stay 0;law side 6;");
        two.beats(2);
        speeds("side: both feet", two, 6, 0);
    }

    private static void names() {
        for (int weight : new int[] {1, 30}) {
            WalkingBridge x = told("bridge 12 0 0;heat 9;walker a " + weight + " 1 0 right;law push weight*100+warm;"
                    + "law side place*10+foot;");
            due("weight, warm", x.law(0, 0, 0, 0), weight * 100 + 9);
            due("place 0, foot 0", x.law(1, 0, 0, 0), 0);
            due("place 0, foot 1", x.law(1, 0, 0, 1), 1);
            due("place 11, foot 1", x.law(1, 0, 11, 1), 111);
        }
        WalkingBridge x = told("bridge 2 0 0;calm 0;walker a 1 9 60 stay 0;law push time;law side sway;");
        due("time 0", x.law(0, 0, 0, 0), 0);
        x.strike(1, -999);
        due("sway is how far it is out, not the speed", x.law(1, 0, 1, 0), 0);
        x.beats(1);
        due("time 1", x.law(0, 0, 0, 0), 1);
        due("sway of 0", x.law(1, 0, 0, 0), 0);
        due("sway of 1", x.law(1, 0, 1, 0), -999);
        x.strike(1, 999);
        x.strike(1, 999);
        x.beats(2);
        due("sway of 1", x.law(1, 0, 1, 0), 999);
        for (int i = 0; i < 49; i++) {
            x.beats(200);
        }
        x.beats(196);
        due("time 9999", x.law(0, 0, 0, 0), 9999);
        due("sway at its bound", x.law(1, 0, 1, 0), 100000);
        WalkingBridge steps = told("bridge 3 0 0;calm 0;heat 2;walker a 10 1 0 right;law push weight+time*2+place*3+foot+warm;");
        steps.beats(3);
        speeds("up", steps, -(10 + 0 + 0 + 1 + 2), -(10 + 2 + 3 + 0 + 2), -(10 + 4 + 6 + 1 + 2));
        WalkingBridge swaying = told("bridge 2 0 0;calm 0;walker a 3 1 0 stay 0;law push sway+5;");
        swaying.beats(1);
        states("up", swaying, -5, 0);
        swaying.beats(1);
        states("up: sway as it was ahead", swaying, -5 - 5 - 0, 0);
    }

    private static long value(String e) {
        return told("walker a 7 1 0 right;law push " + e + ";").law(0, 0, 0, 0);
    }

    private static void values(String[] formulas, long[] values) {
        due("as many values", values.length, formulas.length);
        for (int i = 0; i < formulas.length; i++) {
            due(formulas[i], value(formulas[i]), values[i]);
        }
    }

    private static void comparisons() {
        String[] signs = {"<", "<=", "=", "<>", ">=", ">"};
        int[][] due = {{1, 0, 0}, {1, 1, 0}, {0, 1, 0}, {1, 0, 1}, {0, 1, 1}, {0, 0, 1}};
        for (int i = 0; i < signs.length; i++) {
            values(new String[] {"2" + signs[i] + "3", "3" + signs[i] + "3", "4" + signs[i] + "3"},
                    new long[] {due[i][0], due[i][1], due[i][2]});
            values(new String[] {"0-1" + signs[i] + "0", "0" + signs[i] + "0", "0" + signs[i] + "0-1"},
                    new long[] {due[i][0], due[i][1], due[i][2]});
            values(new String[] {"9999*9999*9999-1" + signs[i] + "9999*9999*9999", "9999*9999*9999" + signs[i] + "9999*9999*9999",
                "9999*9999*9999" + signs[i] + "9999*9999*9999-1"}, new long[] {due[i][0], due[i][1], due[i][2]});
            values(new String[] {"8192*8192*64" + signs[i] + "8192*8192*64+1", "8192*8192*64" + signs[i] + "0"},
                    new long[] {due[i][0], due[i][2]});
        }
    }

    private static void andOrNot() {
        values(new String[] {"0 and 0", "0 and 1", "1 and 0", "1 and 1", "0 or 0", "0 or 1", "1 or 0", "1 or 1", "not 0", "not 1"},
                new long[] {0, 0, 0, 1, 0, 1, 1, 1, 1, 0});
        values(new String[] {"2 and 4", "9999 and 1", "0-1 and 1", "1 and 0-1", "0 or 2", "2 or 0", "0-1 or 0", "0 or 0-1",
            "not 2", "not (0-1)", "not 9999", "not not 9", "not not 0", "not not not 0", "8192*8192*64 and 1", "not (8192*8192*64)"},
                new long[] {1, 1, 1, 1, 1, 1, 1, 1, 0, 0, 0, 1, 0, 1, 1, 0});
        for (String error : new String[] {"1 or 1/0", "1/0 or 1", "0 and 1/0", "1/0 and 0", "0 or 1/0", "1 and 1/0", "not 1/0",
            "1 or 1000*1000*1000*1000+1", "0 and (0-1000*1000*1000*1000-1)"}) {
            due("both sides are worked out: " + error, value(error), Long.MIN_VALUE);
        }
    }

    private static void divisions() {
        values(new String[] {"7/2", "(0-7)/2", "7/(0-2)", "(0-7)/(0-2)", "1/2", "(0-1)/2", "1/(0-2)", "0/5", "0/(0-5)", "6/6",
            "5/6", "(0-5)/6", "(0-6)/6", "9999/1", "9999/(0-1)", "1000*1000*1000*1000/(0-1)", "0-7/2", "7/7/7", "100/7*7"},
                new long[] {3, -3, -3, 3, 0, 0, 0, 0, 0, 1, 0, 0, -1, 9999, -9999, -1000000000000L, -3, 0, 98});
    }

    private static void errors() {
        long most = 1000000000000L;
        String ten = "1000*1000*1000*1000";
        values(new String[] {ten, ten + "-1", ten + "+0", ten + "*1", "0-" + ten, "0-" + ten + "+1", "(0-" + ten + ")*1",
            "1000*1000*(1000*1000)", "(0-1000*1000)*(1000*1000)", "(0-1000*1000)*(0-1000*1000)", "(1000*1000-1)*(1000*1000+1)",
            ten + "-" + ten, "0*(" + ten + ")", "(" + ten + ")*0", ten + "/(" + ten + ")"},
                new long[] {most, most - 1, most, most, -most, 1 - most, -most, most, -most, most, most - 1, 0, 0, 0, 1});
        for (String error : new String[] {"1/0", "0/0", "(0-1)/0", "1/(7-7)", "1/(weight-7)", ten + "/0",
            ten + "+1", "1+" + ten, ten + "+1-1", "0-" + ten + "-1", "0-1-" + ten, "0-" + ten + "-1+1", "0-1-" + ten + "+5",
            "(" + ten + "+1)*0", "(" + ten + "+1)=0", "not (" + ten + "+1)", ten + "-(0-1)", ten + "+" + ten, "0-" + ten + "-" + ten,
            ten + "*2", "(0-" + ten + ")*2", "(1000*1000+1)*(1000*1000)", "(0-1000*1000)*(1000*1000+1)",
            ten + "*(" + ten + ")", "(0-" + ten + ")*(" + ten + ")", "(0-" + ten + ")*(0-" + ten + ")", "1/0*0", "0*(1/0)", "2-1/0",
            "8192*8192*8192*(8192*8192*8192)", "8192*8192*64*(8192*8192*64)", "8192*8192*64*(8192*8192*32)",
            "8192*8192*8192*(0-8192*8192*8192)", "8192*8192*64*(0-8192*8192*64)", "8192*8192*8192*(0-8192*8192*8192)+1",
            "8192*8192*8192*(8192*8192*8192)+1", "(0-8192*8192*64)*(8192*8192*64)", "(0-8192*8192*64)*(8192*8192*32)"}) {
            due(error, value(error), Long.MIN_VALUE);
        }
    }

    private static void bindings() {
        values(new String[] {"2+3*4", "2*3+4", "(2+3)*4", "10-2*3", "10-6/3", "8-2-1", "8-(2-1)", "64/4/2", "64/(4/2)", "64/4*2",
            "6*4/8", "2-1+5", "1+1=2", "2=1+1", "2*2>3", "3<2*2", "1<2+3", "(1<2)+3", "(1=1)=0",
            "not 0=1", "not 1=1", "(not 1)=0", "not 1+1", "not 0 and 0", "not (0 and 0)", "not 0 or 1", "not (0 or 1)",
            "not 1 or 1", "1 or 0 and 0", "(1 or 0) and 0", "0 and 0 or 1", "0 and (0 or 1)", "1 or 1 and 0", "0 or 1 and 1 or 0",
            "1=2 or 2=2", "1=1 and 2<>2", "not 0 and not 0", "5 and not 0<3", "(1)", "((7))", "(2)*(3)-(1)"},
                new long[] {14, 10, 20, 4, 8, 5, 7, 8, 32, 32, 3, 6, 1, 1, 1, 1, 1, 4, 0, 1, 0, 1, 0, 0, 1, 1, 0, 1, 1, 0, 1, 0, 1,
                    1, 1, 0, 1, 0, 1, 7, 5});
    }

    private static void longestLaws() {
        String eight = times("(", 8) + "7" + times(")", 8);
        for (int nots = 54; nots <= 63; nots++) {
            due(nots + " times not", value(times("not ", nots) + "7"), 1 - nots % 2);
            due(nots + " times not of 0", value(times("not ", nots) + "0"), nots % 2);
            due(nots + " times not, 8 '('", value(times("not ", nots) + eight), 1 - nots % 2);
            due(nots + " times not in 8 '('", value(times("not (", 8) + times("not ", nots - 8) + "7" + times(")", 8)), 1 - nots % 2);
        }
        due("32 added", value("1" + times("+1", 31)), 32);
        due("32 taken off", value("1" + times("-1", 31)), -30);
        due("32 times", value("1" + times("*1", 30) + "*9"), 9);
        due("not of 32", value("not 1" + times("+1", 31)), 0);
        due("32 ors", value("0" + times(" or 0", 30) + " or 3"), 1);
        due("32 ands", value("5" + times(" and 5", 30) + " and 0"), 0);
        due("8 deep", value("9-(8-(7-(6-(5-(4-(3-(2-(1))))))))"), 9 - 8 + 7 - 6 + 5 - 4 + 3 - 2 + 1);
        String ahead = "0 or 1 and 2=1+1*(";
        due("all signs wait, 1", value(times(ahead, 6) + "1" + times(")", 6)), 1);
        due("all signs wait, 2", value(times(ahead, 6) + "2" + times(")", 6)), 0);
    }

    private static void galeBlows() {
        for (String gale : new String[] {"", "gale 0;"}) {
            WalkingBridge none = told("bridge 3 0 0;calm 0;seed 99;" + gale);
            none.blow(true);
            none.beats(5);
            states("side of no gale", none, 0, 0, 0);
        }
        WalkingBridge x = told("bridge 3 0 0;calm 0;gale 1;seed 99;");
        x.beats(5);
        states("side: it doesn't blow at first", x, 0, 0, 0);
        x.blow(true);
        x.beats(1);
        due("it blows", x.count(13), 1);
        states("up", x, 0, 0, 0);
        int[] speed = {x.cell(0, 3), x.cell(1, 3), x.cell(2, 3)};
        x.blow(false);
        x.beats(3);
        speeds("side", x, speed);
    }

    private static final int[] SEEDS = {0, 1, 2, 99999};
    /** The first eight numbers from each of the seeds on, worked out apart from the class. */
    private static final int[][] NUMBERS = {
        {0, 21468, 9988, 22117, 3498, 16927, 16045, 19741},
        {16838, 5758, 10113, 17515, 31051, 5627, 23010, 7419},
        {908, 22817, 10239, 12914, 25837, 27095, 29976, 27865},
        {30116, 28181, 664, 4609, 6883, 1535, 24901, 27095}};

    private static void galeNumbers() {
        for (int gale : new int[] {1, 2, 50, 98, 99}) {
            for (int i = 0; i < SEEDS.length; i++) {
                WalkingBridge x = told("bridge 8 0 0;calm 0;gale " + gale + ";seed " + SEEDS[i] + ";");
                x.blow(true);
                x.beats(1);
                for (int c = 0; c < 8; c++) {
                    due("side of " + c + ", gale " + gale + ", seed " + SEEDS[i], x.cell(c, 2),
                            NUMBERS[i][c] % (2 * gale + 1) - gale);
                }
            }
        }
        WalkingBridge least = told("bridge 12 0 0;calm 0;gale 1;seed 5;");
        least.blow(true);
        least.beats(1);
        boolean below = false;
        boolean above = false;
        for (int c = 0; c < 12; c++) {
            below |= least.cell(c, 2) == -1;
            above |= least.cell(c, 2) == 1;
            due("within 1", Math.abs(least.cell(c, 2)) <= 1, true);
        }
        due("-1 and 1", below && above, true);
    }

    private static void chain() {
        for (int i = 0; i < SEEDS.length; i++) {
            WalkingBridge x = told("bridge 2 0 0;calm 0;gale 99;seed " + SEEDS[i] + ";");
            int[] due = {0, 0};
            x.blow(true);
            for (int time = 0; time < 4; time++) {
                x.beats(1);
                for (int c = 0; c < 2; c++) {
                    due[c] += NUMBERS[i][2 * time + c] % 199 - 99;
                }
                speeds("side", x, due);
                x.blow(false);
                x.beats(time);
                x.blow(true);
            }
        }
        WalkingBridge without = told("bridge 2 0 0;calm 0;gale 99;");
        without.blow(true);
        without.beats(1);
        states("side without a seed", without, NUMBERS[0][0] % 199 - 99, NUMBERS[0][1] % 199 - 99);
    }

    private static void stiffLessHeat() {
        for (int stiff : new int[] {0, 4, 9}) {
            for (int heat = 0; heat <= 9; heat++) {
                WalkingBridge x = told("bridge 3 " + stiff + " 4;calm 0;heat " + heat + ";walker a 1 9 0 stay 1;law push 0;law side 16;");
                x.strike(1, 16);
                x.beats(2);
                int left = stiff > heat ? stiff - heat : 0;
                speeds("up, stiff " + stiff + ", heat " + heat, x, left, 16 - 2 * left, left);
                speeds("side, heat " + heat, x, 4, 8, 4);
            }
        }
    }

    private static void beyondTheEnds() {
        WalkingBridge two = told("bridge 2 4 0;calm 0;");
        two.strike(0, 16);
        two.beats(1);
        two.beats(1);
        speeds("up of two", two, 16 - 8, 4);
        WalkingBridge last = told("bridge 12 4 0;calm 0;");
        last.strike(11, 16);
        last.beats(2);
        speeds("up of twelve", last, 0, 0, 0, 0, 0, 0, 0, 0, 0, 0, 4, 8);
        WalkingBridge first = told("bridge 12 4 0;calm 0;");
        first.strike(0, 16);
        first.beats(2);
        speeds("up of twelve", first, 8, 4, 0, 0, 0, 0, 0, 0, 0, 0, 0, 0);
        WalkingBridge all = told("bridge 3 4 0;calm 0;");
        all.strike(0, 16);
        all.strike(1, 16);
        all.strike(2, 16);
        all.beats(2);
        speeds("up of three alike", all, 16 - 4, 16, 16 - 4);
        WalkingBridge after = new WalkingBridge();
        tell(after, "bridge 12 9 9;calm 0;");
        after.strike(5, 999);
        after.beats(9);
        tell(after, "bridge 2 4 4;calm 0;");
        after.strike(1, 16);
        after.beats(2);
        speeds("up of two behind a longer one", after, 4, 8);
    }

    private static void cutBySixteen() {
        int[][] struck = {{15, 0, -1}, {16, 1, -2}, {17, 1, -2}, {31, 1, -3}, {32, 2, -4}, {7, 0, 0}, {8, 0, -1}, {9, 0, -1}};
        for (int[] one : struck) {
            for (int sign = -1; sign <= 1; sign += 2) {
                WalkingBridge x = told("bridge 2 1 0;calm 0;");
                x.strike(0, sign * one[0]);
                x.beats(2);
                speeds("up by " + sign * one[0], x, sign * (one[0] + one[2]), sign * one[1]);
            }
        }
        WalkingBridge y = told("bridge 2 3 0;calm 0;");
        y.strike(0, 6);
        y.beats(2);
        speeds("STIFF times it first, then by 16", y, 6 - 36 / 16, 18 / 16);
        WalkingBridge z = told("bridge 3 1 1;calm 0;");
        z.strike(0, 15);
        z.strike(2, 15);
        z.beats(2);
        speeds("both beside first, then by 16", z, 14, 30 / 16, 14);
        WalkingBridge apart = told("bridge 2 1 0;calm 0;walker a 1 1 1 stay 1;");
        apart.strike(0, -16);
        apart.beats(2);
        speeds("cut ahead of PUSH", apart, -14, -1 - 1);
        WalkingBridge ahead = told("bridge 2 1 0;calm 0;");
        ahead.strike(0, 15);
        ahead.strike(1, -1);
        ahead.beats(2);
        speeds("cut ahead of SPEED", ahead, 15 - 1, -1 + 17 / 16);
    }

    private static void calmCut() {
        int[] calms = {0, 1, 1, 1, 1, 1, 50, 50, 50, 50, 99, 99, 99, 99, 33};
        int[] struck = {999, 99, 100, 101, 199, 200, 1, 2, 3, 999, 1, 2, 100, 101, 100};
        int[] slower = {999, 99, 99, 100, 198, 198, 1, 1, 2, 500, 1, 1, 1, 2, 67};
        for (int i = 0; i < calms.length; i++) {
            for (int sign = -1; sign <= 1; sign += 2) {
                WalkingBridge x = told("bridge 2 0 0;calm " + calms[i] + ";");
                x.strike(0, sign * struck[i]);
                due("struck, calm follows", x.cell(0, 1), sign * struck[i]);
                x.beats(1);
                due("calm " + calms[i] + " of " + sign * struck[i], x.cell(0, 1), sign * slower[i]);
                due("out by the calmed speed", x.cell(0, 0), sign * slower[i]);
            }
        }
        WalkingBridge pushed = told("bridge 2 0 0;calm 50;walker a 1 1 0 stay 0;law push 10;law side 10;");
        pushed.beats(1);
        due("PUSH is calmed, too", pushed.cell(0, 1), -5);
        due("PUSH to the side is calmed, too", pushed.cell(0, 3), 5);
        WalkingBridge without = told("bridge 2 0 0;");
        without.strike(0, 100);
        without.beats(1);
        due("5 of a hundred without", without.cell(0, 1), 95);
    }

    private static void calmAtMost() {
        int[][] added = {{0, 99, 99}, {1, 98, 99}, {1, 99, 100}, {2, 99, 100}, {99, 1, 100}, {99, 99, 100}};
        for (int[] one : added) {
            WalkingBridge told = told("bridge 2 0 0;calm " + one[0] + ";fat f 1 " + one[1] + ";");
            due("calm of 1", told.cell(1, 4), one[2]);
            due("calm of 0", told.cell(0, 4), one[0]);
            WalkingBridge called = told("bridge 2 0 0;calm " + one[0] + ";");
            called.fat(1, one[1]);
            due("calm of 1", called.cell(1, 4), one[2]);
            due("calm of 0", called.cell(0, 4), one[0]);
            called.strike(1, 999);
            called.beats(1);
            due("what is left", called.cell(1, 1), 999 - 999 * one[2] / 100);
        }
        WalkingBridge all = told("bridge 2 0 0;calm 0;fat f 0 30;");
        all.fat(0, 30);
        all.fat(0, 39);
        due("all there", all.cell(0, 4), 99);
        all.fat(0, 1);
        due("all there", all.cell(0, 4), 100);
        all.fat(0, 1);
        due("100 at most", all.cell(0, 4), 100);
        all.undo();
        due("still", all.cell(0, 4), 100);
        all.undo();
        due("one less", all.cell(0, 4), 99);
    }

    /** A bridge of two cells, not stiff, the first one struck up to a speed (sign times 100000 at most). */
    private static WalkingBridge fast(String more, int sign, int speed) {
        WalkingBridge x = told("bridge 2 0 0;" + more);
        int left = speed;
        for (int i = 0; i < 101; i++) {
            int part = Math.min(999, left);
            x.strike(0, sign * part);
            left -= part;
        }
        due("struck", x.cell(0, 1), sign * speed);
        return x;
    }

    private static void speedBounds() {
        for (int sign = -1; sign <= 1; sign += 2) {
            String push = "calm 0;walker a 1 1 0 stay 0;law push " + (sign < 0 ? "50;" : "0-50;");
            int[] struck = {99949, 99950, 99951, 100000};
            int[] speed = {99999, 100000, 100000, 100000};
            for (int i = 0; i < struck.length; i++) {
                WalkingBridge x = fast(push, sign, struck[i]);
                x.beats(1);
                due("speed from " + sign * struck[i], x.cell(0, 1), sign * speed[i]);
                due("out from " + sign * struck[i], x.cell(0, 0), sign * speed[i]);
            }
            WalkingBridge calmed = fast(push.replace("calm 0", "calm 1"), sign, 100000);
            calmed.beats(1);
            due("bound behind calm", calmed.cell(0, 1), sign * (100050 - 1000));
        }
        WalkingBridge side = told("bridge 2 0 0;calm 0;law push 0;law side 99*(foot*2-1);walker a 1 1 0 stay 0;walker b 1 1 0 stay 0;"
                + "walker c 1 1 0 stay 0;walker d 1 1 0 stay 0;walker e 1 1 0 stay 0;walker f 1 1 0 stay 0;");
        side.beats(168);
        due("side's speed", side.cell(0, 3), 168 * 594);
        side.beats(1);
        due("side's speed is bounded", side.cell(0, 3), 100000);
        due("side's out is bounded", side.cell(0, 2), 100000);
        side.beats(9);
        due("side's speed is bounded", side.cell(0, 3), 100000);
    }

    private static void outBounds() {
        for (int sign = -1; sign <= 1; sign += 2) {
            WalkingBridge x = fast("calm 0;", sign, 50000);
            x.beats(1);
            due("out", x.cell(0, 0), sign * 50000);
            due("strike", x.strike(0, -sign), sign * 49999);
            x.beats(1);
            due("out", x.cell(0, 0), sign * 99999);
            x.strike(0, -sign * 999);
            x.beats(1);
            due("out is bounded", x.cell(0, 0), sign * 100000);
            due("speed stays", x.cell(0, 1), sign * 49000);
            x.beats(3);
            due("out is bounded", x.cell(0, 0), sign * 100000);
            due("height", x.count(12), 100000);
            due("was", x.was(5), 100000);
            WalkingBridge one = fast("calm 0;", sign, 50000);
            one.beats(2);
            due("just at the bound", one.cell(0, 0), sign * 100000);
            one.strike(0, -sign * 999);
            due("speed back", one.cell(0, 1), sign * 49001);
        }
    }

    private static void pushEnds() {
        WalkingBridge x = told("bridge 2 0 0;calm 0;walker a 10 9 0 stay 0;law side 7;");
        x.beats(1);
        speeds("up", x, -10, 0);
        speeds("side", x, 7, 0);
        x.beats(8);
        speeds("up", x, -10, 0);
        speeds("side", x, 7, 0);
        x.beats(1);
        speeds("up", x, -20, 0);
        speeds("side", x, 0, 0);
        due("asked, not pushed", x.pump(0, 99, 3, 0), 110 + 3 * 20 + 99 * 6);
        due("asked, not pushed", x.tried(2, 0, 3), 110 + 3 * 20);
        x.beats(1);
        speeds("up", x, -20, 0);
    }

    private static void holds() {
        for (int hold : new int[] {1, 2, 998}) {
            for (int sign = -1; sign <= 1; sign += 2) {
                WalkingBridge x = told("bridge 3 0 0;calm 0;hold " + hold + ";");
                x.strike(0, sign * hold);
                x.strike(1, sign * (hold + 1));
                x.beats(1);
                due("as much as hold " + hold, x.cell(0, 5), 0);
                due("one more than hold " + hold, x.cell(1, 5), 1);
                due("nothing", x.cell(2, 5), 0);
                due("lost", x.count(10), 1);
                x.strike(1, -sign * (hold + 1));
                x.strike(1, -sign);
                x.beats(1);
                due("within hold " + hold + " again", x.cell(1, 0), sign * hold);
                due("lost from then on", x.cell(1, 5), 1);
            }
        }
        WalkingBridge most = fast("calm 0;hold 9999;", 1, 9999);
        most.beats(1);
        due("9999 by hold 9999", most.cell(0, 5), 0);
        WalkingBridge more = fast("calm 0;hold 9999;", -1, 10000);
        more.beats(1);
        due("10000 by hold 9999", more.cell(0, 5), 1);
        for (String none : new String[] {"hold 0;", ""}) {
            WalkingBridge all = fast("calm 0;" + none, 1, 100000);
            all.beats(2);
            due("planks hold all", all.cell(0, 5), 0);
            due("planks hold all", all.count(10), 0);
        }
        WalkingBridge aside = told("bridge 2 0 0;calm 0;hold 1;walker a 1 1 0 stay 0;law push 0;law side 99;");
        aside.beats(4);
        due("of UP alone", aside.count(10), 0);
        WalkingBridge every = told("bridge 12 0 0;calm 0;hold 1;");
        for (int c = 0; c < 12; c++) {
            every.strike(c, 2);
        }
        every.beats(1);
        due("all planks", every.count(10), 12);
    }

    private static void lastCall() {
        WalkingBridge x = new WalkingBridge();
        for (int i = 1; i <= 511; i++) {
            due("strike " + i, x.strike(7, 1), i);
        }
        due("the 512th call", x.cell(7, 1), 511);
    }

    // ---- promises 6 to 14 ----

    private static void looks() {
        StringBuilder six = new StringBuilder("bridge 3 0 0;");
        for (int i = 0; i < 6; i++) {
            six.append("walker ").append((char) ('a' + i)).append(' ').append(i + 1).append(' ').append(9 - i).append(" 0 stay 2;");
        }
        WalkingBridge x = told(six.toString());
        for (int w = 0; w < 6; w++) {
            int[] due = {NONE, w + 1, 9 - w, 0, COMING};
            for (int what = 0; what < 5; what++) {
                due("look(" + w + ", " + what + ")", x.look(w, what), due[what]);
            }
        }
        x.beats(1);
        for (int w = 0; w < 6; w++) {
            int[] due = {2, w + 1, 9 - w, 1, ON};
            for (int what = 0; what < 5; what++) {
                due("look(" + w + ", " + what + ")", x.look(w, what), due[what]);
            }
        }
        due("six at one CELL", x.cell(2, 6), 6);
        due("nobody elsewhere", x.cell(1, 6), 0);
        x.off(5);
        due("five are left", x.cell(2, 6), 5);
        int[] gone = {NONE, 6, 4, 1, GONE};
        for (int what = 0; what < 5; what++) {
            due("look(5, " + what + ") gone", x.look(5, what), gone[what]);
        }
        for (int walker : new int[] {MIN, -2, -1, 6, 7, MAX}) {
            for (int what = 0; what < 5; what++) {
                due("no such walker " + walker, thrown(x, walker, what).equals("IndexOutOfBoundsException"), true);
            }
        }
        for (int what : new int[] {MIN, -2, -1, 5, 6, MAX}) {
            for (int walker = 0; walker < 6; walker += 5) {
                due("no such what " + what, thrown(x, walker, what).equals("NoSuchElementException"), true);
            }
        }
        WalkingBridge one = told("walker a 1 1 0 right;");
        due("look(0, 0)", thrown(one, 0, 0).equals("nothing"), true);
        due("look(1, 0)", thrown(one, 1, 0).equals("IndexOutOfBoundsException"), true);
        tell(one, "calm 1;");
        due("look(0, 0) without walkers", thrown(one, 0, 0).equals("IndexOutOfBoundsException"), true);
    }

    private static void cells() {
        for (int cells : new int[] {2, 8, 12}) {
            WalkingBridge x = told("bridge " + cells + " 0 0;calm 0;walker a 5 1 0 left;walker b 6 1 0 stay " + (cells - 1)
                    + ";law side 4;hold 10;");
            x.beats(1);
            int[] last = {-11, -11, 8, 8, 0, 1, 2};
            int[] first = {0, 0, 0, 0, 0, 0, 0};
            for (int what = 0; what <= 6; what++) {
                due("cell(" + (cells - 1) + ", " + what + ")", x.cell(cells - 1, what), last[what]);
                due("cell(0, " + what + ")", x.cell(0, what), first[what]);
                for (int cell : new int[] {MIN, -2, -1, cells, cells + 1, 12, MAX}) {
                    due("cell(" + cell + ", " + what + ")", x.cell(cell, what), MIN);
                }
            }
            for (int what : new int[] {MIN, -2, -1, 7, 8, MAX}) {
                due("cell(0, " + what + ")", x.cell(0, what), MIN);
                due("cell(" + (cells - 1) + ", " + what + ")", x.cell(cells - 1, what), MIN);
            }
            x.off(0);
            due("who is gone isn't there", x.cell(cells - 1, 6), 1);
        }
    }

    private static void laws() {
        WalkingBridge x = told("bridge 3 0 0;walker a 7 1 0 right;walker b 9 1 0 right;law push weight*100+place*10+foot;"
                + "law side 1000+weight;");
        due("law(0, 0, 0, 0)", x.law(0, 0, 0, 0), 700);
        due("law(0, 1, 2, 1)", x.law(0, 1, 2, 1), 921);
        due("law(1, 1, 2, 1)", x.law(1, 1, 2, 1), 1009);
        for (int no : new int[] {MIN, -2, -1, 2, 3, MAX}) {
            due("what " + no, x.law(no, 0, 0, 0), Long.MIN_VALUE);
            due("walker " + no, x.law(0, no, 0, 0), Long.MIN_VALUE);
            due("cell " + (no == 2 ? 4 : no), x.law(0, 0, no == 2 ? 4 : no, 0), Long.MIN_VALUE);
            due("foot " + no, x.law(0, 0, 0, no), Long.MIN_VALUE);
        }
        due("without a law of push", told("walker a 1 1 0 right;law side 1;").law(0, 0, 0, 0), Long.MIN_VALUE);
        due("with a law of side", told("walker a 1 1 0 right;law side 1;").law(1, 0, 0, 0), 1);
        due("without a law of side", told("walker a 1 1 0 right;law push 1;").law(1, 0, 0, 0), Long.MIN_VALUE);
        due("without walkers", told("law push 1;").law(0, 0, 0, 0), Long.MIN_VALUE);
        WalkingBridge error = told("walker a 1 1 0 right;law push 1/place;law side 1/foot;");
        due("an ERROR at 0", error.law(0, 0, 0, 0), Long.MIN_VALUE);
        due("none at 1", error.law(0, 0, 1, 0), 1);
        due("an ERROR of foot 0", error.law(1, 0, 0, 0), Long.MIN_VALUE);
        due("none of foot 1", error.law(1, 0, 0, 1), 1);
        x.off(0);
        due("of who is gone, too", x.law(0, 0, 0, 0), 700);
        tell(x, "walker a 1 1 0 right;");
        due("the law of a text ahead", x.law(0, 0, 0, 0), Long.MIN_VALUE);
    }

    private static void beats() {
        WalkingBridge x = told("bridge 2 0 0;calm 0;walker a 1 1 0 stay 0;");
        due("beats(0)", x.beats(0), 0);
        due("beats(1)", x.beats(1), 1);
        due("as many times", x.cell(0, 1), -1);
        due("beats(200)", x.beats(200), 201);
        due("as many times", x.cell(0, 1), -201);
        for (int n : new int[] {MIN, -2, -1, 201, 202, MAX}) {
            due("beats(" + n + ")", x.beats(n), NONE);
            due("none did", x.count(6), 201);
            due("none did", x.cell(0, 1), -201);
        }
        for (int time = 401; time <= 9801; time += 200) {
            due("beats(200)", x.beats(200), time);
        }
        for (int n : new int[] {199, 200}) {
            due("beats(" + n + ") at 9801", x.beats(n), NONE);
            due("none did", x.count(6), 9801);
            due("none did", x.cell(0, 1), -9801);
        }
        due("beats(197)", x.beats(197), 9998);
        due("beats(2)", x.beats(2), NONE);
        due("beats(1)", x.beats(1), 9999);
        for (int n : new int[] {1, 2, 200, MAX}) {
            due("beats(" + n + ") at 9999", x.beats(n), NONE);
        }
        due("beats(0) at 9999", x.beats(0), 9999);
        due("count(6)", x.count(6), 9999);
        due("speed", x.cell(0, 1), -9999);
    }

    private static void was() {
        WalkingBridge x = told("bridge 2 0 0;calm 0;walker a 1 1 0 stay 0;law push time=0;");
        for (int time : new int[] {MIN, -61, -60, -1, 0, 1, 59, 60, MAX}) {
            due("was(" + time + ") of none", x.was(time), NONE);
        }
        x.beats(1);
        due("was(0)", x.was(0), 1);
        due("was(1)", x.was(1), NONE);
        due("was(-1)", x.was(-1), NONE);
        x.beats(58);
        due("was(0) at 59", x.was(0), 1);
        x.beats(1);
        due("was(0) at 60", x.was(0), 1);
        due("was(59) at 60", x.was(59), 60);
        due("was(60) at 60", x.was(60), NONE);
        x.beats(1);
        due("was(0) at 61", x.was(0), NONE);
        due("was(1) at 61", x.was(1), 2);
        due("was(60) at 61", x.was(60), 61);
        x.beats(200);
        due("was(200) at 261", x.was(200), NONE);
        for (int time = 201; time <= 260; time++) {
            due("was(" + time + ") at 261", x.was(time), time + 1);
        }
        due("was(261) at 261", x.was(261), NONE);
        for (int time : new int[] {MIN, -1, 0, 321, MAX}) {
            due("was(" + time + ")", x.was(time), NONE);
        }
        due("beats(0)", x.beats(0), 261);
        due("was(201) then", x.was(201), 202);
        x.strike(1, -999);
        due("struck, it isn't out yet", x.was(260), 261);
        x.beats(1);
        due("without sign, of all cells", x.was(261), 999);
        tell(x, "calm 0;");
        due("a new text", x.was(261), NONE);
        WalkingBridge blown = told("bridge 2 0 0;calm 0;gale 99;seed 5;");
        blown.blow(true);
        blown.beats(3);
        due("of UP alone", blown.was(2), 0);
    }

    private static void fat() {
        for (int cells : new int[] {2, 12}) {
            WalkingBridge x = told("bridge " + cells + " 0 0;calm 0;fat f 0 10;");
            for (int calm : new int[] {MIN, -1, 0, 100, 101, MAX}) {
                due("fat(0, " + calm + ")", x.fat(0, calm), NONE);
            }
            for (int cell : new int[] {MIN, -2, -1, cells, cells + 1, MAX}) {
                due("fat(" + cell + ", 1)", x.fat(cell, 1), NONE);
            }
            due("still one", x.count(2), 1);
            due("nothing to undo", x.count(9), 0);
            due("where one is told", x.fat(0, 1), 2);
            due("calm there", x.cell(0, 4), 11);
            due("calm 99 at the last cell", x.fat(cells - 1, 99), 3);
            due("calm there", x.cell(cells - 1, 4), 99);
            for (int i = 4; i <= 8; i++) {
                due("fat " + i, x.fat(cells - 2, i), i);
            }
            due("a ninth", x.fat(0, 1), NONE);
            due("a ninth elsewhere", x.fat(cells - 1, 1), NONE);
            due("eight", x.count(2), 8);
            due("to undo", x.count(9), 7);
            due("calm there", x.cell(cells - 1, 4), 99);
            x.undo();
            due("an eighth again", x.fat(0, 1), 8);
        }
        WalkingBridge four = told("fat a 0 1;fat b 1 1;fat c 2 1;fat d 3 1;");
        for (int i = 5; i <= 8; i++) {
            due("a fifth by call", four.fat(0, 1), i);
        }
        due("a ninth", four.fat(0, 1), NONE);
    }

    private static void off() {
        WalkingBridge x = told("bridge 2 0 0;calm 0;walker a 5 1 0 stay 0;walker b 6 1 0 stay 1;walker c 7 1 5 right;walker d 8 1 0 right;");
        for (int walker : new int[] {MIN, -2, -1, 4, 5, 6, MAX}) {
            due("off(" + walker + ")", x.off(walker), false);
        }
        due("nothing to undo", x.count(9), 0);
        due("who is to come", x.off(2), true);
        due("gone", x.look(2, 4), GONE);
        due("again", x.off(2), false);
        x.beats(2);
        due("the first", x.off(0), true);
        due("gone", x.look(0, 4), GONE);
        due("steps stay", x.look(0, 3), 2);
        due("again", x.off(0), false);
        due("to undo", x.count(9), 1);
        x.beats(1);
        due("pushes no more", x.cell(0, 1), -5 - 5 - 8);
        due("makes no steps", x.look(0, 3), 2);
        due("the other one does", x.look(1, 3), 3);
        due("who walked off", x.look(3, 4), GONE);
        due("off(3)", x.off(3), false);
        due("nothing to undo of it", x.count(9), 0);
        x.beats(5);
        due("never comes", x.look(2, 3), 0);
        due("without walkers", new WalkingBridge().off(0), false);
    }

    private static void blow() {
        WalkingBridge x = told("bridge 2 0 0;calm 0;gale 9;seed 4;");
        due("blow(false) at first", x.blow(false), false);
        due("count(11)", x.count(11), 0);
        due("nothing to undo", x.count(9), 0);
        due("blow(true)", x.blow(true), true);
        due("count(11)", x.count(11), 1);
        due("blow(true) again", x.blow(true), false);
        due("to undo", x.count(9), 1);
        x.beats(1);
        due("from now on", x.count(11), 1);
        due("blow(true) again", x.blow(true), false);
        due("blow(false)", x.blow(false), true);
        due("count(11)", x.count(11), 0);
        due("blow(false) again", x.blow(false), false);
        due("to undo", x.count(9), 1);
        due("without a gale, too", new WalkingBridge().blow(true), true);
    }

    private static void strike() {
        WalkingBridge x = told("bridge 3 4 4;calm 50;");
        for (int n : new int[] {MIN, -1001, -1000, 1000, 1001, MAX}) {
            due("strike(0, " + n + ")", x.strike(0, n), MIN);
        }
        for (int cell : new int[] {MIN, -2, -1, 3, 4, MAX}) {
            due("strike(" + cell + ", 1)", x.strike(cell, 1), MIN);
        }
        due("nothing to undo", x.count(9), 0);
        due("strike(0, 999)", x.strike(0, 999), 999);
        due("strike(2, -999)", x.strike(2, -999), -999);
        due("strike(2, -1)", x.strike(2, -1), -1000);
        due("SPEED", x.cell(2, 1), -1000);
        due("not out yet", x.cell(2, 0), 0);
        due("not to the side", x.cell(2, 3), 0);
        due("the cell between", x.cell(1, 1), 0);
        due("to undo", x.count(9), 3);
        due("strike(2, 0)", x.strike(2, 0), -1000);
        due("as it was", x.count(9), 3);
        for (int sign = -1; sign <= 1; sign += 2) {
            WalkingBridge y = fast("calm 0;", sign, 99999);
            y.beats(1);
            due("to the bound", y.strike(0, sign), sign * 100000);
            due("to undo", y.count(9), 1);
            due("at the bound", y.strike(0, sign), sign * 100000);
            due("at the bound", y.strike(0, sign * 999), sign * 100000);
            due("as it was", y.count(9), 1);
            due("back from it", y.strike(0, -sign), sign * 99999);
            due("beyond it", y.strike(0, sign * 999), sign * 100000);
            due("to undo", y.count(9), 3);
            due("undo()", y.undo(), 2);
            due("undone", y.cell(0, 1), sign * 99999);
        }
    }
}
