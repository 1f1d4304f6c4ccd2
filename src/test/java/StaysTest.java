import java.util.ArrayList;
import java.util.List;
import java.util.NoSuchElementException;

/**
 * A call that is refused, or that only asks, leaves all as it was: what can be seen of the object then, to the last
 * thing to undo and the last byte of the tape, is what can be seen of a twin that was not called so.
 */
public final class StaysTest extends Checks {
    private static final long NO_INDEX = 1L << 40;
    private static final long NO_ELEMENT = 1L << 41;

    private interface Maker {
        WalkingBridge make();
    }

    private interface Call {
        long on(WalkingBridge x);
    }

    private record Refusal(String name, Call call, long due) {
    }

    private static final List<Refusal> refusals = new ArrayList<>();

    public static void main(String[] args) {
        about("the bridges are as they are meant to be");
        meant();
        check("a new object", WalkingBridge::new, 8, 0, 0, 0, 0, 0);
        check("a bridge in use", StaysTest::used, 3, 3, 2, 40, 4, 3);
        check("a full bridge", StaysTest::full, 3, 3, 2, 700, 0, 24);
        check("a late bridge", StaysTest::late, 3, 3, 2, 0, 9999, 0);
        finish("what is refused or asked leaves all as it was");
    }

    // ---- bridges ----

    private static final String TEXT = "bridge 3 2 2;calm 10;hold 60;gale 30;seed 3;walker a 20 1 0 right;walker b 7 2 3 left;"
            + "walker c 5 3 0 stay 1;law side 9;law push weight-sway/9;fat f 0 9;sleep s 1 5;sleep t 2 99;may m 3;";

    /** Four TIMES gone by, walkers GONE, planks lost, an image, groans, deeds, a fault told, 40 bytes on the tape. */
    private static WalkingBridge used() {
        WalkingBridge x = told(TEXT);
        x.blow(true);
        x.beats(2);
        x.strike(2, 300);
        x.beats(1);
        x.keep();
        x.beats(1);
        x.groan(0, 0, 5, true);
        x.groan(3, 1, 9, false);
        x.unsay(1);
        x.known(2);
        x.strike(0, 40);
        x.fat(2, 15);
        x.off(2);
        x.blow(false);
        tell(x, "calm 100;");
        feed(x, "calm 7;             heat 2;gale 4;");
        return x;
    }

    /** So many bytes of the full tape end ahead of a ';'. */
    private static final int CUT_OFF = 686;

    /** 8 FAT ones, 24 groans, 20 things to undo, 700 bytes on the tape. */
    private static WalkingBridge full() {
        WalkingBridge x = told(TEXT);
        for (int i = 0; i < 12; i++) {
            x.groan(i, i % 3, 3 * i, i % 2 == 0);
            x.unsay(i);
        }
        x.known(5);
        for (int i = 0; i < 7; i++) {
            x.fat(i % 3, 5 + i);
            x.strike(i % 3, 10 + i);
            x.blow(i % 2 == 0);
        }
        for (int i = 0; i < 34; i++) {
            feed(x, "                    ");
        }
        feed(x, "calm 3;fat a 1 1;");
        return x;
    }

    /** TIME 9999. */
    private static WalkingBridge late() {
        WalkingBridge x = told(TEXT);
        for (int i = 0; i < 49; i++) {
            x.beats(200);
        }
        x.beats(150);
        x.keep();
        x.beats(49);
        x.fat(0, 1);
        x.strike(1, 77);
        return x;
    }

    private static void meant() {
        int[] ofUsed = {3, 3, 2, 2, 1, 7, 4, 3, 2, 4};
        int[] ofFull = {3, 3, 8, 2, 1, 7, 0, 24, 5, 20};
        int[] ofLate = {3, 3, 2, 2, 1, 7, 9999, 0, 0, 2};
        WalkingBridge used = used();
        WalkingBridge full = full();
        WalkingBridge late = late();
        for (int what = 0; what < 10; what++) {
            due("count(" + what + ") of the one in use", used.count(what), ofUsed[what]);
            due("count(" + what + ") of the full one", full.count(what), ofFull[what]);
            due("count(" + what + ") of the late one", late.count(what), ofLate[what]);
        }
        due("planks of the one in use are lost", used.count(10) > 0, true);
        due("its tape", used.feed(0, 0, 0, 0, 0), 60);
        due("its fault", used.fault(0), 2);
        due("the full one's tape", full.feed(0, 0, 0, 0, 0), NONE);
        due("the late one's image", late.back(), 9950);
    }

    // ---- all that can be seen ----

    private static long look(WalkingBridge x, int walker, int what) {
        try {
            return x.look(walker, what);
        } catch (ArrayIndexOutOfBoundsException e) {
            return -NO_INDEX;
        } catch (IndexOutOfBoundsException e) {
            return NO_INDEX;
        } catch (NoSuchElementException e) {
            return NO_ELEMENT;
        }
    }

    private static void seeState(WalkingBridge x, List<Long> seen) {
        for (int what = 0; what <= 13; what++) {
            seen.add((long) x.count(what));
        }
        for (int c = 0; c < 3; c++) {
            for (int what = 0; what <= 6; what++) {
                seen.add((long) x.cell(c, what));
            }
            for (int what = 0; what <= 4; what++) {
                seen.add(look(x, c, what));
            }
        }
    }

    private static void seeAnswers(WalkingBridge x, List<Long> seen) {
        for (int kind = 0; kind < 4; kind++) {
            seen.add((long) x.named(kind, letters("" + "afsm".charAt(kind))));
        }
        int time = x.count(6);
        for (int past = time - 61; past <= time; past++) {
            seen.add((long) x.was(past));
        }
        seen.add(x.law(0, 1, 2, 1));
        seen.add(x.law(1, 0, 1, 0));
        seen.add((long) x.high(20));
        seen.add((long) x.creaks(1));
        seen.add((long) x.lies(5, 0, 30, 0));
        seen.add((long) x.forbidden(5, 9, 1));
        seen.add((long) x.cancel(0, 1, 9));
        seen.add((long) x.owes(1, 9));
        seen.add((long) x.pump(1, 9, 3, 0));
        seen.add((long) x.began());
        seen.add((long) x.set(0));
        seen.add((long) x.fits());
        seen.add((long) x.gales(7, 3, 40));
        seen.add((long) x.tried(10, 0, 4));
    }

    private static void seeUndone(WalkingBridge x, List<Long> seen) {
        for (int i = 0; i < 21; i++) {
            seen.add((long) x.undo());
            seen.add((long) x.count(2));
            seen.add((long) x.count(11));
            for (int c = 0; c < 3; c++) {
                seen.add((long) x.cell(c, 1));
            }
            seen.add(look(x, 2, 4));
        }
    }

    private static void seeTape(WalkingBridge x, List<Long> seen) {
        seen.add((long) x.fault(0));
        seen.add((long) x.fault(1));
        int fed = feed(x, ";hold 9;");
        seen.add((long) fed);
        seen.add((long) x.text(fed == NONE ? 700 : fed));
        seen.add((long) x.fault(0));
        seen.add((long) x.fault(1));
        seen.add((long) x.cell(0, 4));
        seen.add((long) x.count(2));
    }

    private static List<Long> see(WalkingBridge x, boolean tape) {
        List<Long> seen = new ArrayList<>();
        seeState(x, seen);
        seeAnswers(x, seen);
        x.known(NONE);
        seen.add((long) x.began());
        seeUndone(x, seen);
        x.blow(true);
        seen.add((long) x.beats(1));
        for (int c = 0; c < 3; c++) {
            seen.add((long) x.cell(c, 0));
            seen.add((long) x.cell(c, 2));
        }
        seen.add((long) x.back());
        seeState(x, seen);
        if (tape) {
            seeTape(x, seen);
        }
        return seen;
    }

    // ---- what is refused ----

    private static void refused(String name, long due, Call call) {
        refusals.add(new Refusal(name, call, due));
    }

    /** Each argument of each call in turn is no such one. */
    private static void collectRefusals(int cells, int walkers, int sleepers, int fed, int time, int groans) {
        for (int no : new int[] {MIN, -1, fed + 1, MAX}) {
            refused("text(" + no + ")", -2, x -> x.text(no));
        }
        for (int no : new int[] {MIN, -1, 2, MAX}) {
            refused("fault(" + no + ")", NONE, x -> x.fault(no));
            refused("law(" + no + ", 0, 0, 0)", Long.MIN_VALUE, x -> x.law(no, 0, 0, 0));
            refused("law(0, 0, 0, " + no + ")", Long.MIN_VALUE, x -> x.law(0, 0, 0, no));
            refused("forbidden(1, 1, " + no + ")", NONE, x -> x.forbidden(1, 1, no));
            refused("pump(0, 1, 1, " + no + ")", NONE, x -> x.pump(0, 1, 1, no));
            refused("keeper(0, 1, 1, 1, " + no + ")", NONE, x -> x.keeper(0, 1, 1, 1, no));
        }
        for (int no : new int[] {MIN, -1, 4, MAX}) {
            refused("named(" + no + ", a)", NONE, x -> x.named(no, letters("a")));
            refused("lies(1, 1, 1, " + no + ")", NONE, x -> x.lies(1, 1, 1, no));
            refused("lies(1, " + no + ", 1, 0)", NONE, x -> x.lies(1, no, 1, 0));
        }
        refused("named(0, none)", NONE, x -> x.named(0, letters("zz")));
        for (int no : new int[] {MIN, -1, 14, MAX}) {
            refused("count(" + no + ")", NONE, x -> x.count(no));
        }
        for (int no : new int[] {MIN, -1, 201, MAX}) {
            refused("beats(" + no + ")", NONE, x -> x.beats(no));
        }
        for (int no : new int[] {MIN, -1, time, MAX}) {
            refused("was(" + no + ")", NONE, x -> x.was(no));
        }
        for (int no : new int[] {MIN, -1000, 1000, MAX}) {
            refused("strike(0, " + no + ")", MIN, x -> x.strike(0, no));
        }
        for (int no : new int[] {MIN, -2, groans + 1, MAX}) {
            refused("known(" + no + ")", 0, x -> x.known(no) ? 1 : 0);
        }
        for (int no : new int[] {MIN, -1, groans, MAX}) {
            refused("unsay(" + no + ")", NONE, x -> x.unsay(no));
        }
        for (int no : new int[] {MIN, -1}) {
            refused("set(" + no + ")", NONE, x -> x.set(no));
            refused("gales(" + no + ", 1, 1)", NONE, x -> x.gales(no, 1, 1));
        }
        for (int no : new int[] {MIN, -1, sleepers, MAX}) {
            refused("creaks(" + no + ")", NONE, x -> x.creaks(no));
        }
        collectOfCells(cells);
        collectOfWalkers(walkers);
        collectOfNumbers();
    }

    private static void collectOfCells(int cells) {
        for (int no : new int[] {MIN, -1, cells, MAX}) {
            refused("cell(" + no + ", 0)", MIN, x -> x.cell(no, 0));
            refused("law(0, 0, " + no + ", 0)", Long.MIN_VALUE, x -> x.law(0, 0, no, 0));
            refused("fat(" + no + ", 1)", NONE, x -> x.fat(no, 1));
            refused("strike(" + no + ", 1)", MIN, x -> x.strike(no, 1));
            refused("pump(" + no + ", 1, 1, 0)", NONE, x -> x.pump(no, 1, 1, 0));
            refused("keeper(" + no + ", 1, 1, 1, 0)", NONE, x -> x.keeper(no, 1, 1, 1, 0));
            refused("groan(0, " + no + ", 0, true)", NONE, x -> x.groan(0, no, 0, true));
        }
        for (int no : new int[] {MIN, -1, 7, MAX}) {
            refused("cell(0, " + no + ")", MIN, x -> x.cell(0, no));
        }
    }

    private static void collectOfWalkers(int walkers) {
        for (int no : new int[] {MIN, -1, walkers, MAX}) {
            refused("look(" + no + ", 0)", NO_INDEX, x -> look(x, no, 0));
            refused("law(0, " + no + ", 0, 0)", Long.MIN_VALUE, x -> x.law(0, no, 0, 0));
            refused("off(" + no + ")", 0, x -> x.off(no) ? 1 : 0);
            refused("cancel(0, " + no + ", 1)", MIN, x -> x.cancel(0, no, 1));
            refused("cancel(" + no + ", 0, 1)", MIN, x -> x.cancel(no, 0, 1));
            refused("owes(" + no + ", 1)", NONE, x -> x.owes(no, 1));
            refused("sure(" + no + ")", NONE, x -> x.sure(no));
            refused("tried(3, " + no + ", 1)", NONE, x -> x.tried(3, no, 1));
            refused("tried(9, " + no + ", 1)", NONE, x -> x.tried(9, no, 1));
        }
        refused("cancel(0, 0, 1)", MIN, x -> x.cancel(0, 0, 1));
        for (int no : new int[] {MIN, -1, 5, MAX}) {
            refused("look(0, " + no + ")", walkers > 0 ? NO_ELEMENT : NO_INDEX, x -> look(x, 0, no));
        }
    }

    private static void collectOfNumbers() {
        for (int no : new int[] {MIN, -1, 0, 65, MAX}) {
            refused("high(" + no + ")", NONE, x -> x.high(no));
            refused("forbidden(" + no + ", 1, 0)", NONE, x -> x.forbidden(no, 1, 0));
            refused("cancel(0, 1, " + no + ")", MIN, x -> x.cancel(0, 1, no));
            refused("owes(0, " + no + ")", NONE, x -> x.owes(0, no));
            refused("tried(0, 0, " + (no == 0 ? 66 : no) + ")", NONE, x -> x.tried(0, 0, no == 0 ? 66 : no));
        }
        for (int no : new int[] {MIN, -1, 0, 33, MAX}) {
            refused("lies(" + no + ", 0, 1, 0)", NONE, x -> x.lies(no, 0, 1, 0));
            refused("fewest(" + no + ", 1, 0)", NONE, x -> x.fewest(no, 1, 0));
            refused("gales(0, " + no + ", 0)", NONE, x -> x.gales(0, no, 0));
        }
        for (int no : new int[] {MIN, -1, 0, 100, MAX}) {
            refused("fat(0, " + no + ")", NONE, x -> x.fat(0, no));
            refused("lies(1, 0, " + no + ", 0)", NONE, x -> x.lies(1, 0, no, 0));
            refused("fewest(1, " + no + ", 0)", NONE, x -> x.fewest(1, no, 0));
            refused("pump(0, " + no + ", 1, 0)", NONE, x -> x.pump(0, no, 1, 0));
            refused("keeper(0, " + no + ", 1, 1, 0)", NONE, x -> x.keeper(0, no, 1, 1, 0));
            refused("keeper(0, 1, 1, " + no + ", 0)", NONE, x -> x.keeper(0, 1, 1, no, 0));
        }
        for (int no : new int[] {MIN, -1, 0, 31, MAX}) {
            refused("forbidden(1, " + no + ", 0)", NONE, x -> x.forbidden(1, no, 0));
        }
        for (int no : new int[] {MIN, -1, 0, 8, MAX}) {
            refused("pump(0, 1, " + no + ", 0)", NONE, x -> x.pump(0, 1, no, 0));
            refused("keeper(0, 1, " + (no == 8 ? 6 : no) + ", 1, 0)", NONE, x -> x.keeper(0, 1, no == 8 ? 6 : no, 1, 0));
        }
        for (int no : new int[] {MIN, -1, 64, MAX}) {
            refused("groan(" + no + ", 0, 0, true)", NONE, x -> x.groan(no, 0, 0, true));
        }
        for (int no : new int[] {MIN, -1, 100000, MAX}) {
            refused("groan(0, 0, " + no + ", false)", NONE, x -> x.groan(0, 0, no, false));
            refused("gales(0, 1, " + no + ")", NONE, x -> x.gales(0, 1, no));
            refused("fewest(1, 1, " + (no == 100000 ? 100001 : no) + ")", NONE, x -> x.fewest(1, 1, no == 100000 ? 100001 : no));
        }
        for (int no : new int[] {MIN, -1, 12, MAX}) {
            refused("tried(" + no + ", 0, 0)", NONE, x -> x.tried(no, 0, 0));
        }
        for (int no : new int[] {MIN, -1, 1, MAX}) {
            refused("tried(0, " + no + ", 0)", NONE, x -> x.tried(0, no, 0));
            refused("tried(11, " + no + ", 0)", NONE, x -> x.tried(11, no, 0));
        }
    }

    /** What is refused because of how the bridge is. */
    private static void collectOfState(String bridge) {
        switch (bridge) {
            case "a new object":
                refused("undo()", NONE, WalkingBridge::undo);
                refused("back()", NONE, WalkingBridge::back);
                refused("blow(false)", 0, x -> x.blow(false) ? 1 : 0);
                break;
            case "a bridge in use":
                refused("off(2) again", 0, x -> x.off(2) ? 1 : 0);
                refused("off(0), who walked off", 0, x -> x.off(0) ? 1 : 0);
                refused("blow(false) again", 0, x -> x.blow(false) ? 1 : 0);
                refused("set(8)", -2, x -> x.set(8));
                refused("lies, a second of one", -2, x -> x.lies(1, 1, 1, 2));
                break;
            case "a full bridge":
                refused("feed on a full tape", NONE, x -> x.feed(1, 2, 3, 4, 5));
                refused("a ninth fat one", NONE, x -> x.fat(0, 1));
                refused("a 25th groan", NONE, x -> x.groan(0, 0, 0, true));
                refused("a 25th, a strike", NONE, x -> x.unsay(0));
                refused("blow(true) again", 0, x -> x.blow(true) ? 1 : 0);
                refused("lies, a ninth", NONE, x -> x.lies(1, 1, 1, 0));
                refused("keeper, a ninth", NONE, x -> x.keeper(0, 1, 1, 1, 0));
                refused("back()", NONE, WalkingBridge::back);
                break;
            default:
                for (int n : new int[] {1, 2, 200}) {
                    refused("beats(" + n + ") behind 9999", NONE, x -> x.beats(n));
                }
                refused("was(9938)", NONE, x -> x.was(9938));
                break;
        }
    }

    // ---- what only asks ----

    private static List<Call> asked() {
        List<Call> asked = new ArrayList<>(List.of(x -> x.high(64), x -> x.creaks(0), x -> x.creaks(1),
                x -> x.lies(9, 2, 40, 1), x -> x.lies(9, 0, 40, 0), x -> x.fewest(9, 10, 20), x -> x.forbidden(40, 30, 0),
                x -> x.cancel(0, 2, 30), x -> x.owes(1, 30), x -> x.pump(1, 90, 7, 1), x -> x.keeper(1, 90, 5, 60, 0),
                WalkingBridge::began, x -> x.set(1), x -> x.sure(1), WalkingBridge::fits, x -> x.gales(99, 32, 70),
                x -> x.law(0, 2, 1, 1), x -> x.law(1, 2, 1, 1), x -> x.was(x.count(6) - 1), x -> x.beats(0),
                x -> x.strike(1, 0), x -> x.named(2, letters("s")), x -> x.fault(0), x -> x.fault(1)));
        for (int i = 0; i < 14; i++) {
            int what = i;
            asked.add(x -> x.tried(what, what % 6 == 3 ? 1 : 0, 20));
            asked.add(x -> x.count(what));
            asked.add(x -> x.cell(1, what));
            asked.add(x -> look(x, 1, what));
        }
        return asked;
    }

    private static void same(String call, List<Long> seen, List<Long> due) {
        due("how much is seen after " + call, seen.size(), due.size());
        int i = 0;
        while (i < due.size() - 1 && i < seen.size() - 1 && seen.get(i).equals(due.get(i))) {
            i++;
        }
        due("what is seen " + i + " after " + call, seen.get(i), due.get(i));
    }

    private static void check(String bridge, Maker maker, int cells, int walkers, int sleepers, int fed, int time, int groans) {
        about(bridge + ": a call that is refused leaves all");
        refusals.clear();
        collectRefusals(cells, walkers, sleepers, fed, time, groans);
        collectOfState(bridge);
        List<Long> twin = see(maker.make(), true);
        for (Refusal refusal : refusals) {
            WalkingBridge x = maker.make();
            due(refusal.name, refusal.call.on(x), refusal.due);
            same(refusal.name, see(x, true), twin);
        }
        about(bridge + ": a call that only asks leaves all");
        List<Call> asked = asked();
        for (int i = 0; i < asked.size(); i++) {
            WalkingBridge x = maker.make();
            long first = asked.get(i).on(x);
            due("the answer of question " + i + ", once more", asked.get(i).on(x), first);
            same("question " + i, see(x, true), twin);
        }
        about(bridge + ": NONE with a FAULT, all stays but the tape");
        twin = see(maker.make(), false);
        String[] faults = {"calm 100;", "x", "bridge 5 5 5;calm 1;heat 9;walker z 1 1 1 right;fat z 1 1;sleep z 1 1;may z 2;law push 3;?"};
        for (String fault : faults) {
            WalkingBridge x = maker.make();
            int there = feed(x, fault);
            due("a text of " + there, x.text(there == NONE ? CUT_OFF : there), NONE);
            same("the text " + fault, see(x, false), twin);
        }
    }
}
