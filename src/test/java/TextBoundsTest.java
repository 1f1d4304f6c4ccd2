import java.math.BigInteger;

/** Each sentence about the tape and the TEXT that names an edge (Terms; promises 1 to 5): a test of its own. */
public final class TextBoundsTest extends Checks {
    private static final String[] LANGUAGE = {"bridge", "calm", "heat", "hold", "walker", "fat", "sleep", "gale", "seed",
        "may", "law", "right", "left", "stay", "push", "side", "or", "and", "not", "weight", "time", "place", "sway",
        "foot", "warm"};
    private static final String[] LINE_WORDS = {"bridge", "calm", "heat", "hold", "walker", "fat", "sleep", "gale", "seed",
        "may", "law"};
    private static final String[] SIGNS = {"<", "<=", "=", "<>", ">=", ">", "+", "-", "*", "/", " and ", " or "};

    public static void main(String[] args) {
        about("a new object: a TEXT without LINES; an empty TAPE");
        newObject();
        about("feed: how many it has; NONE, and none come, if it would have more than 700");
        fullTape();
        about("feed: four of each number, the highest first");
        byteOrder();
        about("text: the TAPE's first n bytes are the TEXT, it is empty then");
        firstBytes();
        about("text: -2, and the TAPE stays: there are not so many, n is below 0");
        notSoMany();
        about("text: TIME 0, at rest, it doesn't BLOW, no GROANS, all KNOWN, no IMAGE, nothing to undo then");
        anew();
        about("a TEXT has what it tells and nothing of those ahead: (8, 4 and 4 without), (5 without), (0), no WALKERS, no laws");
        nothingOfThoseAhead();
        about("a TEXT is read anew, whatever FAULT the one ahead had");
        readAnew();
        about("text: NONE with a FAULT, all stays");
        allStays();
        about("text: how many LINES");
        mostLines();
        about("fault: of the latest text() that was not -2");
        latestFault();
        about("named: 5 bits each, the first one highest of six, 0 behind the last one; NONE: there is none such");
        namedBits();
        about("named: what 0 .. 3");
        namedKinds();
        about("Blanks 10, 32; a TOKEN that is none");
        everyByteBetweenLines();
        everyByteInFormula();
        about("W: one of 1 .. 6 letters, none of those of the language");
        wordsAndNames();
        about("A = (or > behind <) right behind < or > belongs to it");
        joinedSigns();
        about("N: digits");
        digits();
        about("bridge: LONG 2 .. 12, STIFF 0 .. 9 up, STIFF 0 .. 9 sideways");
        bridges();
        about("8, 4 and 4 without");
        withoutBridge();
        about("calm 0 .. 99 (5 without), heat 0 .. 9, hold 0 .. 9999, gale 0 .. 99, seed 0 .. 99999 (0)");
        settings();
        about("WALKERS: WEIGHT 1 .. 30, BEAT 1 .. 9, TIME 0 .. 60");
        walkerNumbers();
        about("CELLS 0 .. LONG less 1");
        cellNumbers();
        about("FAT ones: calm 1 .. 99");
        bounds("fat a 0 ", 1, 99, ";");
        about("SLEEPERS: woken by 1 .. 9999");
        bounds("sleep a 0 ", 1, 9999, ";");
        about("WALKERS at most 6, FAT ones at most 4, SLEEPERS at most 4, MAY at most 3; one more: at the word of the LINE");
        mostOfAKind();
        about("N of E 0 .. 9999");
        formulaNumbers();
        about("a ninth '(' open");
        openOnes();
        about("a 65th KNOT of all E (N, NAMES, signs, not, and, or: one each)");
        knots();
        about("fault 1: a TOKEN that can't stand there");
        tokensThatCantStand();
        about("fault 1: the length, if more must come");
        cutOff();
        about("fault 3: told already");
        toldAlready();
        about("fault 4: bridge behind a line with a CELL (stay, fat, sleep; at the word)");
        lateBridge();
        about("fault 5: a FAT one where one stands (at the CELL)");
        taken();
        about("the first along the text");
        firstFault();
        about("of one place the least");
        leastFault();
        finish("the text's bounds hold");
    }

    /** The least and the greatest number are taken; what is beyond, by one or by a wrap-around, is too much at it. */
    private static void bounds(String ahead, int least, int most, String behind) {
        told(ahead + least + behind);
        told(ahead + most + behind);
        told(ahead + "000" + most + behind);
        faulty(ahead + (most + 1) + behind, 2, ahead.length());
        if (least > 0) {
            faulty(ahead + (least - 1) + behind, 2, ahead.length());
        }
        faulty(ahead + "-1" + behind, 1, ahead.length());
        for (int bits = 8; bits <= 128; bits *= 2) {
            BigInteger wrapped = BigInteger.TWO.pow(bits).add(BigInteger.valueOf(least));
            if (wrapped.compareTo(BigInteger.valueOf(most)) > 0) {
                faulty(ahead + wrapped + behind, 2, ahead.length());
            }
        }
        faulty(ahead + times("9", 300) + behind, 2, ahead.length());
        faulty(ahead + "1" + times("0", 300) + behind, 2, ahead.length());
    }

    // ---- promises 1 to 5 ----

    private static void newObject() {
        WalkingBridge x = new WalkingBridge();
        int[] counts = {8, 0, 0, 0, 0, 0, 0, 0, 0, 0, 0, 0, 0, 0};
        for (int what = 0; what < counts.length; what++) {
            due("count(" + what + ")", x.count(what), counts[what]);
        }
        for (int c = 0; c < 8; c++) {
            int[] cell = {0, 0, 0, 0, 5, 0, 0};
            for (int what = 0; what < cell.length; what++) {
                due("cell(" + c + ", " + what + ")", x.cell(c, what), cell[what]);
            }
        }
        due("cell(8, 0)", x.cell(8, 0), MIN);
        due("look(0, 0)", thrown(x, 0, 0).equals("IndexOutOfBoundsException"), true);
        due("named(0, 0)", x.named(0, 0), NONE);
        due("law(0, 0, 0, 0)", x.law(0, 0, 0, 0), Long.MIN_VALUE);
        due("fault(0)", x.fault(0), 0);
        due("fault(1)", x.fault(1), NONE);
        due("undo()", x.undo(), NONE);
        due("back()", x.back(), NONE);
        due("was(0)", x.was(0), NONE);
        due("text(1) of an empty tape", x.text(1), -2);
        due("text(0) of an empty tape", x.text(0), 0);
        due("the first feed", new WalkingBridge().feed(0, 0, 0, 0, 0), 20);
    }

    private static void fullTape() {
        WalkingBridge x = new WalkingBridge();
        for (int i = 1; i <= 34; i++) {
            due("feed " + i, x.feed(0x20202020, 0x20202020, 0x20202020, 0x20202020, 0x20202020), 20 * i);
        }
        due("feed 35", feed(x, times(" ", 13) + "calm 7;"), 700);
        due("feed 36", feed(x, "heat 8;"), NONE);
        due("feed 37", feed(x, "x"), NONE);
        due("text(701)", x.text(701), -2);
        due("text(700)", x.text(700), 1);
        due("calm", x.cell(0, 4), 7);
        due("feed on the emptied tape", feed(x, "calm 9;"), 20);
        due("text(7)", x.text(7), 1);
        due("calm", x.cell(0, 4), 9);
    }

    private static void byteOrder() {
        WalkingBridge x = new WalkingBridge();
        due("feed", x.feed(0x68656174, 0x20333b63, 0x616c6d20, 0x31323b67, 0x616c6520), 20);
        due("feed", x.feed(0x36373b00, 0xffffffff, MIN, MAX, -1), 40);
        due("text(23)", x.text(23), 3);
        due("calm", x.cell(0, 4), 12);
        for (int at = 0; at < 20; at++) {
            int[] numbers = {0x20202020, 0x20202020, 0x20202020, 0x20202020, 0x20202020};
            numbers[at / 4] ^= 0x1b << 24 - 8 * (at % 4);
            due("feed with ';' at " + at, x.feed(numbers[0], numbers[1], numbers[2], numbers[3], numbers[4]), 20);
            due("text with ';' at " + at, x.text(20), NONE);
            due("its place", x.fault(1), at);
        }
    }

    private static void firstBytes() {
        WalkingBridge x = new WalkingBridge();
        due("feed", feed(x, "calm 6;calm 7;calm 8;"), 40);
        due("text(7)", x.text(7), 1);
        due("calm", x.cell(0, 4), 6);
        due("text(1) behind it", x.text(1), -2);
        due("feed behind it", feed(x, "calm 10;"), 20);
        due("text(20)", x.text(20), 1);
        due("calm", x.cell(0, 4), 10);
        feed(x, "calm 12;");
        due("text(7)", x.text(7), NONE);
        due("the place", x.fault(1), 7);
        due("text(1) behind a fault", x.text(1), -2);
        due("feed behind a fault", feed(x, "calm 13;"), 20);
        due("text(0)", x.text(0), 0);
        due("calm", x.cell(0, 4), 5);
        due("text(1) behind text(0)", x.text(1), -2);
    }

    private static void notSoMany() {
        for (int n : new int[] {MIN, -700, -2, -1, 41, 60, 700, 701, MAX}) {
            WalkingBridge x = told("bridge 3 1 1;calm 50;");
            x.strike(0, 9);
            feed(x, "calm 6;             heat 3;");
            due("text(" + n + ")", x.text(n), -2);
            due("LONG", x.count(0), 3);
            due("calm", x.cell(0, 4), 50);
            due("speed", x.cell(0, 1), 9);
            due("to undo", x.count(9), 1);
            due("feed", feed(x, "gale 5;"), 60);
            due("text(60) then", x.text(60), 3);
            due("calm then", x.cell(0, 4), 6);
        }
        WalkingBridge exact = new WalkingBridge();
        feed(exact, "calm 6;");
        due("text(21) of 20", exact.text(21), -2);
        due("text(20) of 20", exact.text(20), 1);
    }

    private static final String LIFE = "bridge 2 2 2;calm 10;hold 5;gale 30;seed 3;walker a 20 1 0 stay 1;law side 30;fat f 0 9;"
            + "sleep s 0 1;may m 1;";

    /** A bridge that has been used in every way. */
    private static WalkingBridge lived() {
        WalkingBridge x = told(LIFE);
        x.blow(true);
        x.beats(3);
        x.groan(0, 0, 1, true);
        x.known(0);
        x.keep();
        x.fat(0, 5);
        return x;
    }

    private static void anew() {
        WalkingBridge x = lived();
        due("lived", x.count(6), 3);
        due("planks were lost", x.count(10) > 0, true);
        due("told again", tell(x, LIFE), 10);
        int[] counts = {2, 1, 1, 1, 1, 2, 0, 0, 0, 0, 0, 0, 0, 0};
        for (int what = 0; what < counts.length; what++) {
            due("count(" + what + ")", x.count(what), counts[what]);
        }
        for (int c = 0; c < 2; c++) {
            for (int what = 0; what < 4; what++) {
                due("cell(" + c + ", " + what + ")", x.cell(c, what), 0);
            }
            due("plank of " + c, x.cell(c, 5), 0);
        }
        due("a is to come", x.look(0, 4), 0);
        due("a's steps", x.look(0, 3), 0);
        due("the past", x.was(0), NONE);
        due("no image", x.back(), NONE);
        due("nothing to undo", x.undo(), NONE);
        due("it doesn't blow", x.blow(false), false);
        due("a groan's number", x.groan(0, 0, 0, false), 0);
        due("all known, also those to come", x.began(), 0);
        due("count(8)", x.count(8), 1);
        x.blow(true);
        x.beats(1);
        WalkingBridge first = told(LIFE);
        first.blow(true);
        first.beats(1);
        due("the numbers begin with the seed", x.cell(0, 2), first.cell(0, 2));
        due("nothing stays of the text ahead", tell(x, "calm 1;"), 1);
        int[] empty = {8, 0, 0, 0, 0, 0, 0, 0, 0, 0, 0, 0, 0, 0};
        for (int what = 0; what < empty.length; what++) {
            due("then count(" + what + ")", x.count(what), empty[what]);
        }
        due("no walker a", x.named(0, letters("a")), NONE);
        x.strike(0, 999);
        x.beats(1);
        due("no hold", x.count(10), 0);
        x.blow(true);
        x.beats(1);
        due("no gale", x.count(13), 0);
    }

    private static final String ALL = "bridge 3 9 9;calm 90;heat 3;hold 2;gale 99;seed 7;walker x 30 1 0 right;walker y 30 1 0 stay 0;"
            + "fat f 0 9;sleep s 0 1;may m 1+1;may n 2;may o 3;law push 9;law side 9;";

    /** An object that was told all there is, three times, and then this text. */
    private static WalkingBridge behindAll(String text) {
        WalkingBridge x = new WalkingBridge();
        for (int i = 0; i < 3; i++) {
            due("all", tell(x, ALL), 15);
        }
        due("text of " + text, tell(x, text), text.chars().filter(sign -> sign == ';').count());
        return x;
    }

    private static void nothingOfThoseAhead() {
        WalkingBridge x = behindAll("");
        int[] counts = {8, 0, 0, 0, 0, 0, 0, 0, 0, 0, 0, 0, 0, 0};
        for (int what = 0; what < counts.length; what++) {
            due("count(" + what + ")", x.count(what), counts[what]);
        }
        for (int kind = 0; kind < 4; kind++) {
            due("a name of kind " + kind, x.named(kind, letters("" + "xfsm".charAt(kind))), NONE);
        }
        for (int c = 0; c < 8; c++) {
            due("calm of " + c, x.cell(c, 4), 5);
        }
        x.beats(9);
        due("nobody pushes up", x.count(12), 0);
        due("nobody pushes aside", x.count(13), 0);
        x.strike(0, 16);
        x.beats(2);
        states("up by 4, no heat, calm 5", x, 16 + 8, 4);
        due("no hold", x.count(10), 0);
        x.blow(true);
        x.beats(3);
        due("no gale", x.count(13), 0);
        WalkingBridge side = behindAll("calm 0;walker a 1 9 0 stay 0;law side 16;");
        side.beats(2);
        states("side by 4", side, 24, 4);
        due("no law of push", side.law(0, 0, 0, 0), Long.MIN_VALUE);
        due("WEIGHT without", side.cell(0, 1) < 0 && side.cell(0, 1) >= -1, true);
        due("no MAY", side.fits(), 1);
        WalkingBridge push = behindAll("walker a 1 9 0 stay 0;law push warm;");
        due("no law of side", push.law(1, 0, 0, 0), Long.MIN_VALUE);
        due("no heat", push.law(0, 0, 0, 0), 0);
        WalkingBridge gale = behindAll("bridge 2 0 0;calm 0;gale 99;");
        WalkingBridge first = told("bridge 2 0 0;calm 0;gale 99;seed 0;");
        gale.blow(true);
        first.blow(true);
        gale.beats(1);
        first.beats(1);
        due("no seed", gale.cell(1, 2), first.cell(1, 2));
        WalkingBridge may = behindAll("walker a 1 9 0 stay 0;may p 4+4+4;");
        due("knots", may.count(5), 5);
        may.groan(0, 0, 12, true);
        due("calm 5 leaves 12 of 12, WEIGHT without a law isn't as much", may.fits(), 1);
        due("the law as told is none", behindAll("may p 4;").fits(), 3);
    }

    private static void readAnew() {
        String[] faults = {"law push ((((((((1;", "law push 1+2*((3<4;", "law push 1<2 3;", "law push not not 1", "law push 1 or 2 and (3<4",
            "law push (1<(2<(3<", "fat a 0 1;calm 1;heat 1;law push 1;law side 1;?", "may a not (1=1", "walker a 1 1 0 stay"};
        for (String fault : faults) {
            WalkingBridge x = new WalkingBridge();
            due("text of " + fault, tell(x, fault), NONE);
            String text = "bridge 3 1 1;calm 1;heat 1;fat a 0 1;walker a 7 1 0 right;law push 2+3*4<15;law side ((((((((weight))))))))-9;may a 1;";
            due("text behind " + fault, tell(x, text), 8);
            due("push behind " + fault, x.law(0, 0, 0, 0), 1);
            due("side behind " + fault, x.law(1, 0, 0, 0), -2);
            due("knots behind " + fault, x.count(5), 11);
            due("text of " + fault, tell(x, fault), NONE);
            due("a bridge behind " + fault, tell(x, "bridge 4 1 1;law side 1<2;law push (1=1)-5;walker a 1 1 0 right;"), 4);
            due("push behind " + fault, x.law(0, 0, 0, 0), -4);
            due("side behind " + fault, x.law(1, 0, 0, 0), 1);
        }
    }

    private static void allStays() {
        String[] faults = {"x", "calm 100;", "bridge 4 4 4;bridge 4 4 4;", "fat a 0 1;bridge 4 4 4;", "fat a 0 1;fat b 0 1;",
            "bridge 5 5 5;calm 1;heat 9;hold 3;gale 1;seed 5;walker z 1 1 1 right;sleep z 1 1;may z 2;law push 3;law side 4; ;"};
        for (String fault : faults) {
            WalkingBridge x = lived();
            WalkingBridge same = lived();
            due("text of " + fault, tell(x, fault), NONE);
            for (int what = 0; what <= 13; what++) {
                due("count(" + what + ") after " + fault, x.count(what), same.count(what));
            }
            due("named after " + fault, x.named(0, letters("a")), 0);
            due("was(2) after " + fault, x.was(2), same.was(2));
            due("began() after " + fault, x.began(), same.began());
            due("fits() after " + fault, x.fits(), same.fits());
            due("undo() after " + fault, x.undo(), 0);
            due("back() after " + fault, x.back(), 3);
            due("beats(1) after " + fault, x.beats(1), 4);
            same.undo();
            same.beats(1);
            for (int c = 0; c < 2; c++) {
                for (int what = 0; what <= 6; what++) {
                    due("cell(" + c + ", " + what + ") after " + fault, x.cell(c, what), same.cell(c, what));
                }
            }
        }
    }

    private static void mostLines() {
        StringBuilder all = new StringBuilder("bridge 12 9 9;calm 99;heat 9;hold 9999;gale 99;seed 99999;");
        for (char name = 'a'; name <= 'f'; name++) {
            all.append("walker ").append(name).append(" 30 9 60 stay 11;");
        }
        for (char name = 'a'; name <= 'd'; name++) {
            all.append("fat ").append(name).append(' ').append(name - 'a').append(" 99;");
            all.append("sleep ").append(name).append(" 11 9999;");
        }
        all.append("may a 9999;may b 0;may c warm;law push weight;law side foot;");
        WalkingBridge x = told(all.toString());
        due("all lines", tell(x, all.toString()), 25);
        int[] counts = {12, 6, 4, 4, 3, 5, 0};
        for (int what = 0; what < counts.length; what++) {
            due("count(" + what + ")", x.count(what), counts[what]);
        }
        due("no line", tell(x, "  \n\n  "), 0);
        due("one line", tell(x, "calm 0;"), 1);
        StringBuilder filled = new StringBuilder(times(" \n", 346)).append("heat 0;\n");
        due("length", filled.length(), 700);
        due("one line of 700 bytes", tell(x, filled.toString()), 1);
        String blanks = "law push 1" + times(" ", 679) + "+foot" + " ;";
        due("one long line", tell(x, blanks + times(" ", 700 - blanks.length())), 1);
        due("its knots", x.count(5), 3);
    }

    private static void latestFault() {
        WalkingBridge x = new WalkingBridge();
        due("text(1)", x.text(1), -2);
        due("fault(0) of none", x.fault(0), 0);
        due("fault(1) of none", x.fault(1), NONE);
        tell(x, "calm 5;calm");
        for (int n : new int[] {-1, 1, 701}) {
            due("text(" + n + ")", x.text(n), -2);
            due("fault(0) stays", x.fault(0), 3);
            due("fault(1) stays", x.fault(1), 7);
        }
        tell(x, "calm 500;");
        due("the latest fault(0)", x.fault(0), 2);
        due("the latest fault(1)", x.fault(1), 5);
        tell(x, ";");
        due("fault(0) at 0", x.fault(0), 1);
        due("fault(1) at 0", x.fault(1), 0);
        for (int what : new int[] {MIN, -2, -1, 2, 3, MAX}) {
            due("fault(" + what + ")", x.fault(what), NONE);
        }
        due("text(0)", x.text(0), 0);
        due("fault(0) without", x.fault(0), 0);
        due("fault(1) without", x.fault(1), NONE);
        due("fault(2) without", x.fault(2), NONE);
    }

    private static void namedBits() {
        WalkingBridge x = told("walker a 1 1 0 right;walker z 1 1 0 right;walker zz 1 1 0 right;"
                + "walker zzzzzz 1 1 0 right;walker aaaaaa 1 1 0 right;walker aaaaab 1 1 0 right;");
        due("a", x.named(0, 1 << 25), 0);
        due("z", x.named(0, 26 << 25), 1);
        due("zz", x.named(0, 26 << 25 | 26 << 20), 2);
        due("zzzzzz", x.named(0, 26 << 25 | 26 << 20 | 26 << 15 | 26 << 10 | 26 << 5 | 26), 3);
        due("aaaaaa", x.named(0, 1 << 25 | 1 << 20 | 1 << 15 | 1 << 10 | 1 << 5 | 1), 4);
        due("aaaaab", x.named(0, 1 << 25 | 1 << 20 | 1 << 15 | 1 << 10 | 1 << 5 | 2), 5);
        due("aaaaa", x.named(0, 1 << 25 | 1 << 20 | 1 << 15 | 1 << 10 | 1 << 5), NONE);
        due("aa", x.named(0, 1 << 25 | 1 << 20), NONE);
        due("a in the lowest bits", x.named(0, 1), NONE);
        due("a with a bit above", x.named(0, 1 << 25 | 1 << 30), NONE);
        due("a with the highest bit", x.named(0, 1 << 25 | 1 << 31), NONE);
        for (int letters : new int[] {MIN, -1, 0, MAX}) {
            due("named(0, " + letters + ")", x.named(0, letters), NONE);
        }
        for (char letter = 'a'; letter <= 'z'; letter++) {
            WalkingBridge y = told("may " + letter + " 1;");
            due("named " + letter, y.named(3, letter - 'a' + 1 << 25), 0);
            due("named behind " + letter, y.named(3, letter - 'a' + 2 << 25), NONE);
        }
    }

    private static void namedKinds() {
        WalkingBridge x = told("walker a 1 1 0 right;walker b 1 1 0 left;fat b 1 1;fat c 2 1;fat a 3 1;sleep c 0 1;"
                + "sleep a 0 1;may d 1;may e 1;may a 1;");
        int[] ofA = {0, 2, 1, 2};
        for (int what = 0; what < 4; what++) {
            due("a of kind " + what, x.named(what, letters("a")), ofA[what]);
            due("f of kind " + what, x.named(what, letters("f")), NONE);
        }
        for (int what : new int[] {MIN, -2, -1, 4, 5, MAX}) {
            due("kind " + what, x.named(what, letters("a")), NONE);
        }
        due("b is no sleeper", x.named(2, letters("b")), NONE);
        x.off(0);
        due("gone, yet named", x.named(0, letters("a")), 0);
        x.fat(0, 5);
        due("fat by call", x.named(1, 0), NONE);
        tell(x, "fat b 0 1;");
        due("no more", x.named(1, letters("a")), NONE);
        due("no walkers", x.named(0, letters("a")), NONE);
    }

    // ---- tokens ----

    private static void everyByteBetweenLines() {
        for (char sign = 0; sign < 256; sign++) {
            String text = "calm 5;" + sign + "heat 3;";
            if (sign == 10 || sign == 32) {
                told(text);
            } else {
                faulty(text, 1, 7);
            }
        }
    }

    private static void everyByteInFormula() {
        for (char sign = 0; sign < 256; sign++) {
            String text = "law push 1" + sign + "2;";
            if (sign >= '0' && sign <= '9' || "+-*/<=>".indexOf(sign) >= 0) {
                told(text);
            } else {
                faulty(text, 1, sign == ';' || sign == 10 || sign == 32 ? 11 : 10);
            }
        }
    }

    private static void wordsAndNames() {
        for (String word : LANGUAGE) {
            faulty("walker " + word + " 1 1 0 right;", 1, 7);
            faulty("fat " + word + " 1 1;", 1, 4);
            faulty("sleep " + word + " 1 1;", 1, 6);
            faulty("may " + word + " 1;", 1, 4);
            told("may " + word.substring(1) + "x 1;");
        }
        for (String name : new String[] {"a", "z", "zzzzzz", "abcdef", "o", "an", "no", "nott", "ors", "bridg", "righ", "ways"}) {
            told("walker " + name + " 1 1 0 right;fat " + name + " 1 1;sleep " + name + " 1 1;may " + name + " 1;");
        }
        faulty("walker abcdefg 1 1 0 right;", 1, 7);
        faulty("fat abcdefg 1 1;", 1, 4);
        faulty("sleep abcdefg 1 1;", 1, 6);
        faulty("may abcdefg 1;", 1, 4);
        faulty("may bridges 1;", 1, 4);
        faulty("may " + times("a", 300) + " 1;", 1, 4);
        faulty("bridgex 3 3 3;", 1, 0);
        faulty("calmm 3;", 1, 0);
        faulty("cal 3;", 1, 0);
        faulty("may A 1;", 1, 4);
        faulty("may aB 1;", 1, 5);
        faulty("may 1;", 1, 4);
        told("may a1;may b(1);may c2;");
        faulty("may a b 1;", 1, 6);
    }

    private static void joinedSigns() {
        for (String sign : new String[] {"<", "<=", "<>", "=", ">", ">="}) {
            due("knots of 1" + sign + "2", told("law push 1" + sign + "2;").count(5), 3);
            due("knots of 1 " + sign + " 2", told("law push 1 " + sign + " 2;").count(5), 3);
        }
        faulty("law push 1< =2;", 1, 12);
        faulty("law push 1<\n=2;", 1, 12);
        faulty("law push 1> =2;", 1, 12);
        faulty("law push 1< >2;", 1, 12);
        faulty("law push 1=<2;", 1, 11);
        faulty("law push 1=>2;", 1, 11);
        faulty("law push 1==2;", 1, 11);
        faulty("law push 1><2;", 1, 11);
        faulty("law push 1<<2;", 1, 11);
        faulty("law push 1>>2;", 1, 11);
        faulty("law push 1<<=2;", 1, 11);
        faulty("law push 1<=>2;", 1, 12);
        faulty("law push 1<>=2;", 1, 12);
        faulty("law push 1>==2;", 1, 12);
        faulty("law push 1<", 1, 11);
        faulty("law push 1<=", 1, 12);
    }

    private static void digits() {
        WalkingBridge x = told("calm 0000000000000000000000000000000000000000000000000000000000000;");
        due("calm", x.cell(0, 4), 0);
        due("calm 0042", told("calm 0042;").cell(0, 4), 42);
        due("calm42", told("calm42;").cell(0, 4), 42);
        faulty("calm 4 2;", 1, 7);
        faulty("calm 4\n2;", 1, 7);
        faulty("calm +4;", 1, 5);
        faulty("calm 4a;", 1, 6);
        faulty("calm a;", 1, 5);
        faulty("calm (4);", 1, 5);
        WalkingBridge y = told("walker a 1 1 0 right;law push 1234+5678*0+90*0;law side 0987;");
        due("1234", y.law(0, 0, 0, 0), 1234);
        due("0987", y.law(1, 0, 0, 0), 987);
    }

    // ---- numbers of lines ----

    private static void bridges() {
        bounds("bridge ", 2, 12, " 4 4;");
        bounds("bridge 4 ", 0, 9, " 4;");
        bounds("bridge 4 4 ", 0, 9, ";");
        for (int cells : new int[] {2, 12}) {
            WalkingBridge x = told("bridge " + cells + " 0 0;");
            due("LONG", x.count(0), cells);
            due("the last cell", x.cell(cells - 1, 0), 0);
            due("none behind it", x.cell(cells, 0), MIN);
        }
        int[] stiff = {0, 9};
        int[] out = {32, 14};
        for (int i = 0; i < 2; i++) {
            WalkingBridge x = told("bridge 2 " + stiff[i] + " 4;calm 0;");
            x.strike(0, 16);
            x.beats(2);
            due("up with " + stiff[i], x.cell(0, 0), out[i]);
            WalkingBridge y = told("bridge 2 4 " + stiff[i] + ";calm 0;walker a 1 9 0 stay 0;law side 16;");
            y.beats(2);
            due("side with " + stiff[i], y.cell(0, 2), out[i]);
        }
        told("calm 5;heat 3;hold 7;gale 9;seed 5;walker a 1 1 0 right;walker b 1 1 0 left;may a 1;law push 1;law side 1;"
                + "bridge 4 4 4;");
    }

    private static void withoutBridge() {
        WalkingBridge x = told("calm 0;walker a 1 9 0 stay 7;law side 16;");
        due("LONG", x.count(0), 8);
        x.strike(7, 16);
        due("cell 8", x.strike(8, 16), MIN);
        x.beats(2);
        due("side of 7", x.cell(7, 2), 16 + 16 - 8);
        due("side of 6", x.cell(6, 2), 4);
        due("up of 6", x.cell(6, 0), 60 / 16);
        due("up of 7", x.cell(7, 0), 15 + 15 - 7);
    }

    private static void settings() {
        bounds("calm ", 0, 99, ";");
        bounds("heat ", 0, 9, ";");
        bounds("hold ", 0, 9999, ";");
        bounds("gale ", 0, 99, ";");
        bounds("seed ", 0, 99999, ";");
        due("calm 0", told("calm 0;").cell(0, 4), 0);
        due("calm 99", told("calm 99;").cell(0, 4), 99);
        due("calm without", told("heat 0;").cell(0, 4), 5);
        for (int heat : new int[] {0, 9}) {
            due("warm", told("heat " + heat + ";walker a 1 1 0 right;law push warm;").law(0, 0, 0, 0), heat);
        }
        due("warm without", told("walker a 1 1 0 right;law push warm;").law(0, 0, 0, 0), 0);
    }

    private static void walkerNumbers() {
        for (String way : new String[] {"right", "left", "stay 0"}) {
            bounds("walker a ", 1, 30, " 1 0 " + way + ";");
            bounds("walker a 1 ", 1, 9, " 0 " + way + ";");
            bounds("walker a 1 1 ", 0, 60, way + ";");
        }
        WalkingBridge x = told("walker a 1 9 60 right;walker b 30 1 0 left;");
        due("weight 1", x.look(0, 1), 1);
        due("weight 30", x.look(1, 1), 30);
        due("beat 9", x.look(0, 2), 9);
        due("beat 1", x.look(1, 2), 1);
    }

    private static void cellNumbers() {
        for (int cells : new int[] {2, 8, 12}) {
            String bridge = "bridge " + cells + " 4 4;";
            bounds(bridge + "walker a 1 1 0 stay ", 0, cells - 1, ";");
            bounds(bridge + "fat a ", 0, cells - 1, " 1;");
            bounds(bridge + "sleep a ", 0, cells - 1, " 1;");
        }
        bounds("walker a 1 1 0 stay ", 0, 7, ";");
        bounds("fat a ", 0, 7, " 1;");
        bounds("sleep a ", 0, 7, " 1;");
        WalkingBridge x = new WalkingBridge();
        tell(x, "bridge 12 4 4;fat a 11 1;");
        due("a text ahead doesn't matter", tell(x, "fat a 8 1;"), NONE);
        due("its place", x.fault(1), 6);
    }

    private static String kinds(String kind, String behind, int n, boolean apart) {
        StringBuilder lines = new StringBuilder();
        for (int i = 0; i < n; i++) {
            lines.append(kind).append(' ').append((char) ('a' + i)).append(' ');
            lines.append(apart ? i + " " : "").append(behind).append(';');
        }
        return lines.toString();
    }

    private static void mostOfAKind() {
        String[] kinds = {"walker", "fat", "sleep", "may"};
        String[] behinds = {"1 1 0 right", "9", "9", "1"};
        int[] most = {6, 4, 4, 3};
        for (int kind = 0; kind < 4; kind++) {
            boolean apart = kind == 1 || kind == 2;
            for (int n = 1; n <= most[kind]; n++) {
                WalkingBridge x = told(kinds(kinds[kind], behinds[kind], n, apart));
                due(n + " of " + kinds[kind], x.count(kind + 1), n);
                due("the last of " + kinds[kind], x.named(kind, letters("" + (char) ('a' + n - 1))), n - 1);
            }
            String full = kinds(kinds[kind], behinds[kind], most[kind], apart);
            faulty(kinds(kinds[kind], behinds[kind], most[kind] + 1, apart), 2, full.length());
            faulty(full + " " + kinds[kind], 2, full.length() + 1);
            faulty(full + kinds[kind] + " a", 2, full.length());
            faulty(full + kinds[kind] + " 1", 2, full.length());
        }
    }

    // ---- formulas ----

    private static void formulaNumbers() {
        bounds("law push ", 0, 9999, ";");
        bounds("law side ", 0, 9999, ";");
        bounds("may a ", 0, 9999, ";");
        bounds("law push (weight+", 0, 9999, ")*2;");
        due("9999", told("walker a 1 1 0 right;law push 9999;").law(0, 0, 0, 0), 9999);
        due("0", told("walker a 1 1 0 right;law push 0;").law(0, 0, 0, 0), 0);
    }

    private static void openOnes() {
        String eight = times("(", 8) + "1" + times(")", 8);
        told("law push " + eight + ";");
        told("law push " + eight + "+" + eight + ";law side " + eight + ";may a " + eight + ";");
        told("law push ((((((((1)+(2))))))));");
        faulty("law push (" + eight + ");", 2, 17);
        faulty("law side (" + eight + ");", 2, 17);
        faulty("may a (" + eight + ");", 2, 14);
        faulty("law push (((((((1+((1))))))))));", 2, 19);
        faulty("law push 1+" + times("(", 9), 2, 19);
        faulty("law push not " + times("(", 9), 2, 21);
        faulty("law push ((((((((1)+((2)))))))));", 2, 21);
        faulty("law push " + times("(", 8), 1, 17);
        faulty("law push 1" + times(")", 1) + ";", 1, 10);
        faulty("law push " + times("(", 8) + "1" + times(")", 9) + ";", 1, 26);
        faulty("law push " + times("(", 8) + "1" + times(")", 7) + ";", 1, 25);
        due("'(' are no knots", told("law push " + eight + ";").count(5), 1);
    }

    private static void knots() {
        String most = "law push 1" + times("+1", 31) + ";";
        due("63", told(most).count(5), 63);
        due("64 in two laws", told(most + "law side 1;").count(5), 64);
        due("64 with '('", told(most + "law side ((1));").count(5), 64);
        for (String name : new String[] {"weight", "time", "place", "sway", "foot", "warm", "7"}) {
            due("64 by " + name, told(most + "may a " + name + ";").count(5), 64);
            faulty(most + "may a 1;law side " + name + ";", 2, most.length() + 17);
        }
        for (String sign : SIGNS) {
            faulty(most + "law side 1" + sign + "1;", 2, most.length() + 10 + (sign.startsWith(" ") ? 1 : 0));
            due("3 by " + sign, told("law side 1" + sign + "1;").count(5), 3);
        }
        faulty(most + "law side not 1;", 2, most.length() + 13);
        faulty(most + "law side 1;may a not 1;", 2, most.length() + 17);
        due("2 by not", told("law side not 1;").count(5), 2);
        String all = "law push 1" + times("+1", 9) + ";law side 2" + times("*2", 9) + ";may a 3" + times("-3", 9) + ";may b 1;";
        due("58 in four", told(all).count(5), 58);
        due("64 in five", told(all + "may c not not not not not 1;").count(5), 64);
        faulty(all + "may c not not not not not not 1;", 2, all.length() + 30);
        due("63 times not", told("law push " + times("not ", 63) + "1;").count(5), 64);
        faulty("law push " + times("not ", 64) + "1;", 2, 9 + 64 * 4);
        faulty("law push " + times("not ", 65) + "1;", 2, 9 + 64 * 4);
        WalkingBridge x = new WalkingBridge();
        tell(x, most + "law side 1;");
        due("counted anew", tell(x, most + "law side 1;"), 2);
        due("counted anew", tell(x, most + "law side 1"), NONE);
        due("counted anew", tell(x, most + "law side 1;"), 2);
        due("of the text in force", x.count(5), 64);
    }

    // ---- faults ----

    private static void tokensThatCantStand() {
        for (String word : LANGUAGE) {
            boolean begins = false;
            for (String one : LINE_WORDS) {
                begins |= one.equals(word);
            }
            if (!begins) {
                faulty(word + " 1;", 1, 0);
            }
            faulty("calm " + word + ";", 1, 5);
            faulty("calm 5 " + word, 1, 7);
            boolean way = word.equals("right") || word.equals("left") || word.equals("stay");
            if (!way) {
                faulty("walker a 1 1 0 " + word + ";", 1, 15);
            }
            boolean kind = word.equals("push") || word.equals("side");
            if (!kind) {
                faulty("law " + word + " 1;", 1, 4);
            }
        }
        for (String sign : new String[] {"<", "<=", "=", "<>", ">=", ">", "+", "-", "*", "/", ")", ";", "and", "or"}) {
            faulty("law push " + sign + " 1;", 1, 9);
            faulty("law push 1+" + sign + " 1;", 1, 11);
            faulty("law push not " + sign + " 1;", 1, 13);
            faulty("law push (" + sign + " 1);", 1, 10);
        }
        for (String part : new String[] {"1", "weight", "(1)", "not 1", "a", "push", "law"}) {
            faulty("law push 1 " + part + ";", 1, 11);
            faulty("law push (1) " + part + ";", 1, 13);
            faulty("law push warm " + part + ";", 1, 14);
        }
        for (String sign : new String[] {"<", "<=", "=", "<>", ">=", ">", "+", "-", "*", "/"}) {
            faulty("law push 1" + sign + " not 1;", 1, 11 + sign.length());
            told("law push 1" + sign + "(not 1);");
        }
        for (String first : new String[] {"<", "<=", "=", "<>", ">=", ">"}) {
            faulty("law push 1 " + first + " 2 = 3;", 1, 14 + first.length());
            faulty("law push 1 = 2 " + first + " 3;", 1, 15);
            faulty("law push (1 = 2 " + first + " 3);", 1, 16);
            told("law push (1 = 2) " + first + " 3;");
            told("law push 1 = (2 " + first + " 3);");
            told("law push 1 = 2 and 2 " + first + " 3 or 1 " + first + " 2;");
            faulty("law push 1 = (2 " + first + " 3) = 4;", 1, 20 + first.length());
            for (String sign : new String[] {"+", "-", "*", "/"}) {
                faulty("law push 1 " + first + " 2" + sign + "3 = 4;", 1, 16 + first.length());
                told("law push 1" + sign + "2 " + first + " 3" + sign + "4;");
            }
            told("law push (1 and 2) " + first + " 3;");
            told("law push 1 " + first + " (2 or 3);");
            told("law push (not 1) " + first + " (not (1 and 2) and 3);");
            told("law push ((1 and 2) " + first + " 3 or 4) = 5;");
            faulty("law push (1 and 2) " + first + " 3 = 4;", 1, 22 + first.length());
            faulty("law push 1 " + first + " (2 or 3) = 4;", 1, 21 + first.length());
        }
        faulty("bridge 4 4;", 1, 10);
        faulty("bridge 4 4 4 4;", 1, 13);
        faulty("fat a 1;", 1, 7);
        faulty("fat a 1 1 1;", 1, 10);
        faulty("sleep a 1;", 1, 9);
        faulty("sleep a 1 1 1;", 1, 12);
        faulty("walker a 1 1 right;", 1, 13);
        faulty("walker a 1 1 0 right 1;", 1, 21);
        faulty("walker a 1 1 0 left 1;", 1, 20);
        faulty("walker a 1 1 0 stay;", 1, 19);
        faulty("walker a 1 1 0 stay 1 1;", 1, 22);
        faulty("walker a 1 1 0;", 1, 14);
        faulty("may a;", 1, 5);
        faulty("law push;", 1, 8);
        faulty("law;", 1, 3);
        faulty("calm 5;;", 1, 7);
        faulty(";", 1, 0);
    }

    /** Each text is cut behind each of its bytes: it is sound behind ';' alone, else its fault is at the place told. */
    private static void cutOff() {
        int n = 0;
        String[] texts = {"calm 5;", "bridge 4 4 4;", "fat a 1 2;", "sleep a 1 2;", "walker a 1 1 0 stay 3;",
            "walker a 1 1 0 left;", "law push (1+time)<2;", "may a not (3)>=4;"};
        for (String text : texts) {
            for (int length = 1; length < text.length(); length++) {
                String cut = text.substring(0, length);
                int word = length;
                while (word > 0 && Character.isLetter(cut.charAt(word - 1))) {
                    word--;
                }
                String last = cut.substring(word);
                boolean whole = last.isEmpty() || last.length() == 1 && cut.length() > 4 && last.equals("a");
                for (String known : LANGUAGE) {
                    whole |= known.equals(last);
                }
                faulty(cut, 1, whole ? length : word);
                if (whole) {
                    faulty(cut + " ", 1, length + 1);
                    faulty(cut + "\n \n", 1, length + 3);
                }
                n++;
            }
            told(text);
            told(text + " \n ");
        }
        due("cuts", n, 6 + 12 + 9 + 11 + 21 + 19 + 19 + 16);
        WalkingBridge x = new WalkingBridge();
        feed(x, "calm 57;");
        due("text(6)", x.text(6), NONE);
        due("at the length", x.fault(1), 6);
        feed(x, "calm 5;");
        due("text(4)", x.text(4), NONE);
        due("at the length", x.fault(1), 4);
        String[] longer = {"law push timex;", "law push 1<=2;", "law push 12;", "calm 5; calm 5;"};
        int[] cut = {13, 11, 10, 12};
        int[] place = {13, 11, 10, 8};
        for (int i = 0; i < longer.length; i++) {
            feed(x, longer[i]);
            due("text(" + cut[i] + ") of " + longer[i], x.text(cut[i]), NONE);
            due("what is behind isn't read", x.fault(1), place[i]);
        }
        String[] ends = {"calm", "may a 1<", "may a 1", "may a time", "may a (", "calm 5", "x", "?"};
        for (String end : ends) {
            boolean token = !end.equals("x") && !end.equals("?");
            faulty(times(" ", 700 - end.length()) + end, 1, token ? 700 : 699);
        }
        told(times(" ", 693) + "calm 5;");
        faulty("calm 5" + times(" ", 694), 1, 700);
    }

    private static void toldAlready() {
        String[] lines = {"bridge 4 4 4;", "calm 1;", "heat 1;", "hold 1;", "gale 1;", "seed 1;"};
        for (String line : lines) {
            String word = line.substring(0, line.indexOf(' '));
            faulty(line + line, 3, line.length());
            faulty(line + "may a 1;" + word, 3, line.length() + 8);
            faulty(line + word + " 999999;", 3, line.length());
            for (String other : lines) {
                if (!other.equals(line)) {
                    told(line + other);
                    faulty(line + other + line, 3, line.length() + other.length());
                    faulty(line + other + other, 3, line.length() + other.length());
                }
            }
            faulty(line + "law push 1;law side 1;" + line, 3, line.length() + 22);
        }
        for (String kind : new String[] {"push", "side"}) {
            String line = "law " + kind + " 1;";
            faulty(line + line, 3, 15);
            faulty(line + "may a 1;law " + kind, 3, 23);
            told(line + "law " + (kind.equals("push") ? "side" : "push") + " 1;");
        }
        faulty("walker a 1 1 0 right;walker a 2 2 2 left;", 3, 28);
        faulty("walker b 1 1 0 right;walker a 1 1 0 right;walker b", 3, 49);
        faulty("fat a 0 1;fat a 1 1;", 3, 14);
        faulty("sleep a 0 1;sleep a 0 1;", 3, 18);
        faulty("may a 1;may a 1;", 3, 12);
        faulty("may abcdef 1;may abcdef 1;", 3, 17);
        told("may abcdef 1;may abcdeg 1;may abcde 1;");
        told("walker a 1 1 0 right;fat a 0 1;sleep a 0 1;may a 1;");
        WalkingBridge x = new WalkingBridge();
        for (int i = 0; i < 2; i++) {
            due("told in another text", tell(x, "calm 1;may a 1;law push 1;bridge 3 3 3;"), 4);
        }
    }

    private static void lateBridge() {
        faulty("walker a 1 1 0 stay 1;bridge 4 4 4;", 4, 22);
        faulty("fat a 1 1;bridge 4 4 4;", 4, 10);
        faulty("sleep a 1 1;bridge 4 4 4;", 4, 12);
        faulty("fat a 1 1;calm 5;may a 1; bridge", 4, 26);
        told("walker a 1 1 0 right;bridge 4 4 4;");
        told("walker a 1 1 0 left;bridge 4 4 4;");
        told("bridge 4 4 4;walker a 1 1 0 stay 1;fat a 1 1;sleep a 1 1;");
        WalkingBridge x = new WalkingBridge();
        tell(x, "fat a 1 1;");
        due("a CELL of another text", tell(x, "bridge 4 4 4;"), 1);
    }

    private static void taken() {
        faulty("fat a 0 1;fat b 0 1;", 5, 16);
        faulty("fat a 7 1;fat b 6 1;fat c 7 1;", 5, 26);
        faulty("fat a 7 1;fat b 6 1;fat c 5 1;fat d 5 1;", 5, 36);
        faulty("fat a 0 1;fat b 0", 5, 16);
        faulty("fat a 0 1;fat b 00 100;", 5, 16);
        told("fat a 0 1;fat b 1 1;fat c 2 1;fat d 3 1;");
        told("walker a 1 1 0 stay 3;sleep a 3 1;fat a 3 1;");
        told("walker a 1 1 0 stay 3;walker b 1 1 0 stay 3;sleep a 3 1;sleep b 3 1;");
        WalkingBridge x = new WalkingBridge();
        tell(x, "fat a 0 1;");
        x.fat(1, 1);
        due("who stood in another text", tell(x, "fat a 0 1;fat b 1 1;"), 2);
    }

    private static void firstFault() {
        faulty("calm 100;heat 10;", 2, 5);
        faulty("calm 5;heat 10;calm 5;", 2, 12);
        faulty("calm 5;calm 100;", 3, 7);
        faulty("fat a 0 1;fat b 0 100;", 5, 16);
        faulty("fat a 0 1;fat b 1 100;fat c 0 1;", 2, 18);
        faulty("fat a 0 1;bridge 99 99 99;", 4, 10);
        faulty("bridge 99 99 99;x", 2, 7);
        faulty("bridge 3 99 99", 2, 9);
        faulty("walker a 0 0 61 up", 2, 9);
        faulty("walker a 1 0 61 up", 2, 11);
        faulty("walker a 1 1 61 up", 2, 13);
        faulty("walker a 1 1 60 up", 1, 16);
        faulty("walker calm 0 0", 1, 7);
        faulty("law push 10000 1", 2, 9);
        faulty("law push 1 10000", 1, 11);
        faulty("?calm 100;", 1, 0);
        faulty("calm 100?", 2, 5);
    }

    private static void leastFault() {
        String most = "law push 1" + times("+1", 31) + ";law side 1";
        faulty(most + " 1;", 1, most.length() + 1);
        faulty(most + " 10000;", 1, most.length() + 1);
        faulty(most + " not 1;", 1, most.length() + 1);
        faulty(most + ");", 1, most.length());
        faulty(most + "a;", 1, most.length());
        String full = "law push not 1" + times("+1", 31) + ";law side ";
        faulty(full + "+1;", 1, full.length());
        faulty(full + "a;", 1, full.length());
        faulty(full + ";", 1, full.length());
        faulty("law push " + times("(", 8) + "1(", 1, 18);
        faulty("calm 5 10000;", 1, 7);
        faulty("law 10000;", 1, 4);
        faulty("fat 9 9;", 1, 4);
        String walkers = kinds("walker", "1 1 0 right", 6, false);
        faulty(walkers + "calm walker", 1, walkers.length() + 5);
        faulty("calm 5;heat calm", 1, 12);
        faulty("law push 1;law calm", 1, 15);
        faulty("law push 1;law 5 push", 1, 15);
        faulty("fat a 1 1;calm bridge", 1, 15);
        faulty("bridge 4 4 4;fat a 1 1;bridge 4 4 4;", 3, 23);
        faulty("fat a 1 1;fat b 8 1;", 2, 16);
        faulty("fat a 1 1;fat b fat", 1, 16);
    }
}
