import java.util.NoSuchElementException;

/** What the tests share: an answer is compared with the one that is due, a text is told, sound or faulty. */
abstract class Checks {
    static final int NONE = -1;
    static final int MIN = Integer.MIN_VALUE;
    static final int MAX = Integer.MAX_VALUE;

    private static int wrong = 0;
    private static String sentence = "";

    /** The promise or the sentence of the document that the next checks belong to. */
    static void about(String words) {
        sentence = words;
    }

    static void due(String call, long got, long want) {
        if (got != want) {
            wrong++;
            System.out.println(sentence + ": " + call + " answered " + got + ", due is " + want);
        }
    }

    static void due(String call, boolean got, boolean want) {
        due(call, got ? 1 : 0, want ? 1 : 0);
    }

    static void finish(String allWell) {
        System.out.println(wrong == 0 ? allWell : wrong + " answers are not as due");
        if (wrong != 0) {
            System.exit(1);
        }
    }

    static int feed(WalkingBridge x, String text) {
        return Fed.feed(x, text);
    }

    static int tell(WalkingBridge x, String text) {
        return Fed.tell(x, text);
    }

    /** A new object that was told a sound text. */
    static WalkingBridge told(String text) {
        WalkingBridge x = new WalkingBridge();
        long lines = text.chars().filter(sign -> sign == ';').count();
        due("text of " + text, tell(x, text), lines);
        due("fault(0) of " + text, x.fault(0), 0);
        due("fault(1) of " + text, x.fault(1), NONE);
        return x;
    }

    /** The text has this fault at this place, and the text told ahead of it stays. */
    static void faulty(String text, int fault, int place) {
        WalkingBridge x = told("bridge 3 1 2;walker zz 3 1 0 right;");
        due("text of " + text, tell(x, text), NONE);
        due("fault(0) of " + text, x.fault(0), fault);
        due("fault(1) of " + text, x.fault(1), place);
        due("all stays after " + text, x.count(0), 3);
        due("all stays after " + text, x.named(0, letters("zz")), 0);
        due("the tape is empty after " + text, x.feed(0, 0, 0, 0, 0), 20);
    }

    static int letters(String name) {
        int letters = 0;
        for (int i = 0; i < 6; i++) {
            letters = letters << 5 | (i < name.length() ? name.charAt(i) - 'a' + 1 : 0);
        }
        return letters;
    }

    static String times(String piece, int n) {
        return piece.repeat(n);
    }

    /** How far the cells are out: to the side if it begins with "side", else up. */
    static void states(String what, WalkingBridge x, int... want) {
        for (int c = 0; c < want.length; c++) {
            due(what + " of cell " + c, x.cell(c, what.startsWith("side") ? 2 : 0), want[c]);
        }
    }

    /** The name of what look() throws, the document's or the machine's; "nothing" if it answers. */
    static String thrown(WalkingBridge x, int walker, int what) {
        try {
            x.look(walker, what);
            return "nothing";
        } catch (IndexOutOfBoundsException | NoSuchElementException e) {
            return e.getClass().getSimpleName();
        }
    }
}
