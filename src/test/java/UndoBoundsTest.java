/** Each sentence about what can be undone, of IMAGES and counts (==== 4; promises 33 to 36): a test of its own. */
public final class UndoBoundsTest extends Checks {
    public static void main(String[] args) {
        about("undo: the latest is undone: how many are left; NONE: none");
        none();
        about("By call one is FAT at a CELL: can be undone");
        fatUndone();
        about("By call a WALKER is GONE: can be undone");
        offUndone();
        about("By call it BLOWS or not: can be undone");
        blowUndone();
        about("By call a CELL is struck: can be undone");
        strikeUndone();
        about("the latest first");
        latestFirst();
        about("20 at most");
        twenty();
        about("if no TIME went by since");
        noTimeSince();
        about("a call that is refused can't be undone");
        refused();
        about("what is asked, fed, groaned or kept is nothing to undo");
        othersAreNothing();
        about("keep: an IMAGE is kept (in place of one ahead): which TIME it is");
        keeps();
        about("back: NONE: there is none");
        noImage();
        about("back: all is as in the IMAGE: which TIME it is");
        allIsBack();
        onTheWay();
        about("back: nothing to undo then");
        nothingToUndo();
        about("An IMAGE keeps all but GROANS");
        groansStay();
        about("count: 0 .. 13; NONE for another what");
        counts();
        about("count: each at its bounds");
        countBounds();
        finish("the bounds of undoing hold");
    }

    private static final String TEXT = "bridge 3 2 2;calm 10;hold 40;gale 30;seed 3;walker a 20 1 0 right;walker b 7 2 3 left;"
            + "walker c 5 3 0 stay 1;law side 9;fat f 0 9;";

    private static void none() {
        WalkingBridge x = new WalkingBridge();
        due("undo() of a new one", x.undo(), NONE);
        due("count(9)", x.count(9), 0);
        x.strike(0, 1);
        due("undo()", x.undo(), 0);
        due("undo() again", x.undo(), NONE);
        due("undo() again", x.undo(), NONE);
        due("count(9)", x.count(9), 0);
        due("as at first", x.cell(0, 1), 0);
        x.strike(0, 1);
        due("one again", x.count(9), 1);
        tell(x, "calm 3;");
        due("undo() of a new text", x.undo(), NONE);
    }

    private static void fatUndone() {
        WalkingBridge x = told(TEXT);
        x.fat(0, 5);
        x.fat(2, 95);
        int[] calm = {24, 10, 100};
        for (int c = 0; c < 3; c++) {
            due("calm of " + c, x.cell(c, 4), calm[c]);
        }
        due("undo()", x.undo(), 1);
        due("calm of 2", x.cell(2, 4), 10);
        due("calm of 0", x.cell(0, 4), 24);
        due("FAT ones", x.count(2), 2);
        due("undo()", x.undo(), 0);
        due("calm of 0", x.cell(0, 4), 19);
        due("the told one stays", x.count(2), 1);
        due("the told one stays", x.undo(), NONE);
        due("the told one stays", x.cell(0, 4), 19);
        due("its name stays", x.named(1, letters("f")), 0);
    }

    private static void offUndone() {
        WalkingBridge x = told(TEXT);
        x.beats(1);
        x.off(1);
        x.off(0);
        due("undo()", x.undo(), 1);
        due("a is on again", x.look(0, 4), 1);
        due("at its CELL", x.look(0, 0), 0);
        due("with its steps", x.look(0, 3), 1);
        due("counted there", x.cell(0, 6), 1);
        due("b is still gone", x.look(1, 4), 2);
        due("undo()", x.undo(), 0);
        due("b is to come again", x.look(1, 4), 0);
        due("nowhere yet", x.look(1, 0), NONE);
        x.beats(3);
        due("b has come", x.look(1, 0), 2);
        due("a has walked off", x.look(0, 4), 2);
        due("who walked off isn't undone", x.undo(), NONE);
    }

    private static void blowUndone() {
        WalkingBridge x = told(TEXT);
        x.blow(true);
        due("undo()", x.undo(), 0);
        due("it doesn't blow", x.count(11), 0);
        x.blow(true);
        x.blow(false);
        due("undo()", x.undo(), 1);
        due("it blows", x.count(11), 1);
        due("undo()", x.undo(), 0);
        due("it doesn't", x.count(11), 0);
        x.blow(true);
        x.beats(1);
        x.blow(false);
        due("undo()", x.undo(), 0);
        due("it blows, as it did a TIME ago", x.count(11), 1);
        due("undo()", x.undo(), NONE);
        due("it still does", x.count(11), 1);
    }

    private static void strikeUndone() {
        for (int sign = -1; sign <= 1; sign += 2) {
            WalkingBridge x = told("bridge 2 0 0;calm 0;");
            x.strike(1, sign * 7);
            x.strike(1, sign * 999);
            x.strike(0, sign);
            due("undo()", x.undo(), 2);
            due("the first cell", x.cell(0, 1), 0);
            due("the other one", x.cell(1, 1), sign * 1006);
            due("undo()", x.undo(), 1);
            due("the other one", x.cell(1, 1), sign * 7);
            due("undo()", x.undo(), 0);
            due("the other one", x.cell(1, 1), 0);
            for (int i = 0; i < 100; i++) {
                x.strike(0, sign * 999);
            }
            x.beats(1);
            due("near the bound", x.cell(0, 1), sign * 99900);
            x.strike(0, sign * 999);
            due("at the bound", x.cell(0, 1), sign * 100000);
            due("undo()", x.undo(), 0);
            due("as it was, not less by 999", x.cell(0, 1), sign * 99900);
        }
    }

    private static void latestFirst() {
        WalkingBridge x = told(TEXT);
        x.beats(1);
        int speed = x.cell(1, 1);
        x.strike(1, 50);
        x.blow(true);
        x.off(0);
        x.fat(1, 30);
        x.strike(1, -90);
        due("five", x.count(9), 5);
        due("undo()", x.undo(), 4);
        due("the second strike", x.cell(1, 1), speed + 50);
        due("calm is still more", x.cell(1, 4), 40);
        due("undo()", x.undo(), 3);
        due("calm", x.cell(1, 4), 10);
        due("a is still gone", x.look(0, 4), 2);
        due("undo()", x.undo(), 2);
        due("a is on", x.look(0, 4), 1);
        due("it still blows", x.count(11), 1);
        due("undo()", x.undo(), 1);
        due("it doesn't blow", x.count(11), 0);
        due("still struck", x.cell(1, 1), speed + 50);
        x.fat(2, 1);
        due("one more instead", x.count(9), 2);
        due("undo()", x.undo(), 1);
        due("undo()", x.undo(), 0);
        due("not struck", x.cell(1, 1), speed);
        due("undo()", x.undo(), NONE);
    }

    private static void twenty() {
        for (int deeds : new int[] {19, 20, 21, 22, 45}) {
            WalkingBridge x = told("bridge 2 0 0;calm 0;");
            for (int i = 1; i <= deeds; i++) {
                x.strike(0, i);
                due("count(9) of " + i, x.count(9), Math.min(20, i));
            }
            int left = Math.min(20, deeds);
            int speed = deeds * (deeds + 1) / 2;
            for (int i = deeds; i > deeds - Math.min(20, deeds); i--) {
                left--;
                speed -= i;
                due("undo()", x.undo(), left);
                due("speed", x.cell(0, 1), speed);
            }
            due("no more of " + deeds, x.undo(), NONE);
            due("what is too long ago stays", x.cell(0, 1), speed);
        }
        ofEachKind();
        WalkingBridge mixed = told("bridge 2 0 0;calm 0;walker a 1 1 0 right;");
        mixed.off(0);
        mixed.fat(0, 7);
        mixed.fat(1, 8);
        for (int i = 0; i < 18; i++) {
            mixed.blow(i % 2 == 0);
        }
        due("a's going is too long ago", mixed.count(9), 20);
        mixed.blow(true);
        for (int i = 19; i >= 0; i--) {
            due("undo()", mixed.undo(), i);
        }
        due("no more", mixed.undo(), NONE);
        due("a stays gone", mixed.look(0, 4), 2);
        due("the first fat one stays", mixed.cell(0, 4), 7);
        due("the second one doesn't", mixed.cell(1, 4), 0);
        due("it doesn't blow", mixed.count(11), 0);
    }

    /** 26 deeds of all kinds in turn, 20 of them undone; the bridge is as the test's own rows have it. */
    private static void ofEachKind() {
        WalkingBridge x = told("bridge 3 0 0;calm 0;walker a 1 1 0 right;walker b 1 1 0 right;walker c 1 1 0 right;"
                + "walker d 1 1 0 right;walker e 1 1 0 right;walker f 1 1 0 right;");
        int[][] states = new int[27][13];
        for (int i = 1; i <= 26; i++) {
            int[] state = states[i - 1].clone();
            int cell = i % 3;
            if (i % 4 == 0 && i / 4 <= 6) {
                due("off", x.off(i / 4 - 1), true);
                state[6 + i / 4 - 1] = 2;
            } else if (i % 7 == 3) {
                due("fat", x.fat(cell, i), state[12] / 2 + 1);
                state[3 + cell] += i;
                state[12] += 2;
            } else if (i % 5 == 1) {
                due("blow", x.blow(state[12] % 2 == 0), true);
                state[12] ^= 1;
            } else {
                state[cell] += 100 + i;
                due("strike", x.strike(cell, 100 + i), state[cell]);
            }
            states[i] = state;
        }
        for (int left = 19; left >= 0; left--) {
            due("undo()", x.undo(), left);
            int[] state = states[left + 6];
            for (int c = 0; c < 3; c++) {
                due("speed of " + c, x.cell(c, 1), state[c]);
                due("calm of " + c, x.cell(c, 4), state[3 + c]);
            }
            for (int w = 0; w < 6; w++) {
                due("walker " + w, x.look(w, 4), state[6 + w]);
            }
            due("FAT ones", x.count(2), state[12] / 2);
            due("whether it blows", x.count(11), state[12] % 2);
        }
        due("no more", x.undo(), NONE);
    }

    private static void noTimeSince() {
        WalkingBridge x = told("bridge 2 0 0;calm 0;walker a 1 1 60 right;");
        x.strike(0, 5);
        x.fat(1, 5);
        x.off(0);
        x.blow(true);
        due("beats(0)", x.beats(0), 0);
        due("no TIME went by", x.count(9), 4);
        due("beats(201)", x.beats(201), NONE);
        due("none did", x.count(9), 4);
        due("beats(-1)", x.beats(-1), NONE);
        due("none did", x.count(9), 4);
        due("undo()", x.undo(), 3);
        due("beats(1)", x.beats(1), 1);
        due("one did", x.count(9), 0);
        due("undo()", x.undo(), NONE);
        due("it is struck", x.cell(0, 1), 5);
        due("a stays gone", x.look(0, 4), 2);
        due("one more is FAT", x.count(2), 1);
        x.strike(0, 3);
        due("since then", x.undo(), 0);
        due("since then", x.cell(0, 1), 5);
        due("no more", x.undo(), NONE);
        for (int i = 0; i < 25; i++) {
            x.strike(0, 1);
        }
        x.beats(200);
        due("200 did", x.undo(), NONE);
        x.strike(0, 1);
        due("one again", x.count(9), 1);
    }

    private static void refused() {
        WalkingBridge x = told(TEXT);
        x.beats(1);
        x.off(0);
        due("off(0) again", x.off(0), false);
        due("off(3)", x.off(3), false);
        due("off(-1)", x.off(-1), false);
        due("blow(false)", x.blow(false), false);
        due("strike(0, 0)", x.strike(0, 0) == x.cell(0, 1), true);
        due("strike(0, 1000)", x.strike(0, 1000), MIN);
        due("strike(3, 1)", x.strike(3, 1), MIN);
        due("fat(3, 1)", x.fat(3, 1), NONE);
        due("fat(0, 100)", x.fat(0, 100), NONE);
        due("one alone", x.count(9), 1);
        for (int i = 2; i <= 8; i++) {
            due("fat", x.fat(0, 1), i);
        }
        due("a ninth", x.fat(0, 1), NONE);
        due("eight", x.count(9), 8);
        for (int i = 7; i >= 0; i--) {
            due("undo()", x.undo(), i);
        }
        due("a is on", x.look(0, 4), 1);
    }

    private static void othersAreNothing() {
        WalkingBridge x = told(TEXT + "sleep s 1 5;may m 3;");
        feed(x, "calm 5;");
        x.groan(0, 0, 1, true);
        x.unsay(0);
        x.known(1);
        x.keep();
        x.high(3);
        x.creaks(0);
        x.lies(3, 2, 5, 0);
        x.fewest(3, 5, 5);
        x.forbidden(3, 5, 0);
        x.cancel(0, 1, 3);
        x.owes(0, 3);
        x.pump(0, 5, 3, 0);
        x.keeper(0, 5, 3, 5, 0);
        x.began();
        x.set(0);
        x.sure(0);
        x.fits();
        x.gales(5, 3, 5);
        for (int what = 0; what < 12; what++) {
            x.tried(what, 0, 3);
        }
        x.text(99);
        due("count(9)", x.count(9), 0);
        due("undo()", x.undo(), NONE);
    }

    // ---- images ----

    private static void keeps() {
        WalkingBridge x = told("bridge 2 0 0;calm 0;walker a 1 1 0 stay 0;");
        due("keep() at 0", x.keep(), 0);
        x.beats(5);
        due("back()", x.back(), 0);
        due("speed", x.cell(0, 1), 0);
        x.beats(7);
        due("keep() at 7, in place of it", x.keep(), 7);
        x.beats(5);
        due("back()", x.back(), 7);
        due("speed", x.cell(0, 1), -7);
        due("back() once more", x.back(), 7);
        x.beats(1);
        due("back() once more", x.back(), 7);
        due("keep() of the same", x.keep(), 7);
        x.strike(0, 9);
        due("keeping leaves what can be undone", x.keep(), 7);
        due("keeping leaves what can be undone", x.undo(), 0);
        due("undone", x.cell(0, 1), -7);
        due("back()", x.back(), 7);
        due("struck as in the IMAGE", x.cell(0, 1), 2);
        for (int i = 0; i < 49; i++) {
            x.beats(200);
        }
        x.beats(192);
        due("keep() at 9999", x.keep(), 9999);
        due("back()", x.back(), 9999);
    }

    private static void noImage() {
        WalkingBridge x = new WalkingBridge();
        due("back() of a new one", x.back(), NONE);
        x.strike(0, 5);
        due("back() refused", x.back(), NONE);
        due("struck still", x.cell(0, 1), 5);
        due("to undo still", x.count(9), 1);
        x.keep();
        due("back()", x.back(), 0);
        tell(x, "calm 100;");
        due("back() behind a fault", x.back(), 0);
        due("text(1)", x.text(1), -2);
        due("back() behind -2", x.back(), 0);
        tell(x, "calm 10;");
        due("back() behind a new text", x.back(), NONE);
        x.keep();
        due("text(0)", x.text(0), 0);
        due("back() behind an empty text", x.back(), NONE);
    }

    private static long[] all(WalkingBridge x) {
        long[] all = new long[100];
        int n = 0;
        int[] counts = {0, 1, 2, 3, 4, 5, 6, 10, 11, 12, 13};
        for (int what : counts) {
            all[n++] = x.count(what);
        }
        for (int c = 0; c < 3; c++) {
            for (int what = 0; what <= 6; what++) {
                all[n++] = x.cell(c, what);
            }
            for (int what = 0; what <= 4; what++) {
                all[n++] = x.look(c, what);
            }
        }
        for (int time = 0; time < 12; time++) {
            all[n++] = x.was(time);
        }
        all[n++] = x.high(9);
        all[n++] = x.law(1, 0, 1, 1);
        return all;
    }

    private static void allIsBack() {
        WalkingBridge x = told(TEXT);
        x.beats(2);
        x.blow(true);
        x.beats(2);
        x.fat(1, 20);
        x.off(2);
        x.strike(2, 77);
        long[] then = all(x);
        due("keep()", x.keep(), 4);
        x.beats(1);
        long[] next = all(x);
        x.beats(6);
        x.fat(0, 50);
        x.fat(2, 50);
        x.off(1);
        x.blow(false);
        x.strike(0, -99);
        x.beats(1);
        due("back()", x.back(), 4);
        long[] now = all(x);
        for (int i = 0; i < then.length; i++) {
            due("answer " + i, now[i], then[i]);
        }
        x.beats(1);
        now = all(x);
        for (int i = 0; i < next.length; i++) {
            due("answer " + i + " a TIME later, the gale's numbers too", now[i], next[i]);
        }
    }

    private static void onTheWay() {
        WalkingBridge x = told("bridge 12 0 0;calm 0;walker a 10 1 0 right;walker b 10 1 0 left;");
        x.beats(4);
        x.keep();
        x.beats(5);
        due("a has gone on", x.look(0, 0), 8);
        due("back()", x.back(), 4);
        due("a's CELL", x.look(0, 0), 3);
        due("b's CELL", x.look(1, 0), 8);
        x.beats(1);
        due("a goes on from there", x.look(0, 0), 4);
        due("a pushes there", x.cell(4, 1), -10);
        due("not yet ahead of it", x.cell(5, 1), 0);
        WalkingBridge past = told("bridge 2 0 0;calm 0;walker a 1 1 0 stay 0;law push time=0;");
        past.beats(70);
        past.keep();
        past.beats(200);
        past.beats(23);
        due("back()", past.back(), 70);
        due("was(9)", past.was(9), NONE);
        for (int time = 10; time < 70; time++) {
            due("was(" + time + ") is as in the IMAGE", past.was(time), time + 1);
        }
        due("was(70)", past.was(70), NONE);
    }

    private static void nothingToUndo() {
        WalkingBridge x = told(TEXT);
        x.strike(0, 5);
        x.fat(0, 5);
        x.keep();
        x.off(0);
        due("three", x.count(9), 3);
        due("back()", x.back(), 0);
        due("nothing to undo", x.count(9), 0);
        due("undo()", x.undo(), NONE);
        due("struck as in the IMAGE", x.cell(0, 1), 5);
        due("FAT as in the IMAGE", x.count(2), 2);
        due("a is to come", x.look(0, 4), 0);
        x.strike(0, 5);
        due("since then", x.undo(), 0);
        due("since then", x.cell(0, 1), 5);
    }

    private static void groansStay() {
        WalkingBridge x = told("bridge 2 0 0;walker a 5 1 0 stay 0;");
        x.groan(0, 0, 1, true);
        x.keep();
        x.groan(0, 0, 99, true);
        due("by both", x.began(), 0);
        due("back()", x.back(), 0);
        due("two are there", x.count(7), 2);
        due("by both", x.began(), 0);
        x.unsay(1);
        due("back()", x.back(), 0);
        due("the STRIKE is there", x.count(7), 3);
        due("by the first one", x.began(), 1);
        WalkingBridge y = told("bridge 2 0 0;");
        y.keep();
        for (int i = 0; i < 24; i++) {
            y.groan(0, 0, 0, true);
        }
        y.back();
        due("24 are there", y.groan(0, 0, 0, true), NONE);
    }

    // ---- counts ----

    private static void counts() {
        WalkingBridge x = told("bridge 9 0 0;calm 0;hold 5;walker a 9 1 0 stay 0;walker b 8 1 0 stay 1;walker c 4 1 0 stay 2;"
                + "fat f 8 1;fat g 7 1;sleep s 1 1;may m 1;may n 1+1;may o 2;law side 7;");
        x.beats(1);
        x.fat(0, 2);
        x.strike(0, 1);
        x.blow(true);
        x.strike(0, 1);
        x.groan(1, 1, 1, true);
        x.unsay(0);
        x.unsay(0);
        x.unsay(0);
        x.unsay(0);
        x.known(3);
        int[] due = {9, 3, 3, 1, 3, 6, 1, 5, 3, 4, 2, 1, 9, 7};
        for (int what = 0; what < due.length; what++) {
            due("count(" + what + ")", x.count(what), due[what]);
        }
        for (int what : new int[] {MIN, -14, -2, -1, 14, 15, MAX}) {
            due("count(" + what + ")", x.count(what), NONE);
        }
    }

    private static void countBounds() {
        WalkingBridge x = told("bridge 12 0 0;calm 0;hold 1;");
        due("LONG", x.count(0), 12);
        for (int i = 1; i <= 12; i++) {
            x.strike(i - 1, i % 2 == 0 ? 2 : -2);
        }
        due("PLANKS LOST ahead", x.count(10), 0);
        x.beats(1);
        due("PLANKS LOST", x.count(10), 12);
        due("the greatest UP", x.count(12), 2);
        due("the greatest SIDE", x.count(13), 0);
        x.strike(11, -3);
        x.beats(1);
        due("the greatest UP without sign", x.count(12), 4);
        WalkingBridge side = told("bridge 12 0 0;calm 0;gale 0;walker a 1 9 0 stay 11;law push 0;law side 0-8;");
        side.beats(1);
        due("the greatest SIDE without sign", side.count(13), 8);
        due("UP", side.count(12), 0);
        WalkingBridge fats = told("fat a 0 1;fat b 1 1;fat c 2 1;fat d 3 1;");
        for (int i = 5; i <= 8; i++) {
            fats.fat(0, 1);
            due("FAT ones", fats.count(2), i);
        }
        fats.fat(0, 1);
        due("FAT ones at most", fats.count(2), 8);
    }
}
