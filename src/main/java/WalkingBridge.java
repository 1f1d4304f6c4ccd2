import java.util.Arrays;
import java.util.NoSuchElementException;

/** The walking bridge of DOC.md: a footbridge told as a text, its sway, and what can be asked of it. */
public final class WalkingBridge {
    public static final int NONE = -1;

    private static final int LACKING = -2;
    private static final int TAPE = 700;
    private static final int LONGEST = 12;
    private static final int MOST_WALKERS = 6;
    private static final int MOST_FAT = 8;
    private static final int MOST_SLEEPERS = 4;
    private static final int MOST_MAY = 3;
    private static final int MOST_KNOTS = 64;
    private static final int MOST_OPEN = 8;
    private static final int MOST_GROANS = 24;
    private static final int MOST_DEEDS = 20;
    private static final int MOST_BOUND = 99999;
    private static final int LAST_TIME = 9999;
    private static final int PAST = 60;
    private static final int FARTHEST = 100000;
    private static final int STRONGEST = 99;
    private static final long GREATEST_VALUE = 1000000000000L;
    private static final long ERROR = Long.MIN_VALUE;

    private static final int TO_COME = 0;
    private static final int ON = 1;
    private static final int GONE = 2;

    /** Kinds that have names, by the numbers of promise 5, and how many a text may tell of each. */
    private static final int WALKERS = 0;
    private static final int FAT_ONES = 1;
    private static final int SLEEPERS = 2;
    private static final int MAYS = 3;
    private static final int KINDS = 4;
    private static final int[] MOST_TOLD = {6, 4, 4, 3};

    /** The words of the language, each with a blank behind it: a token's kind is its place in this row. */
    private static final String LANGUAGE =
            "bridge calm heat hold walker fat sleep gale seed may law right left stay push side or and not weight time place sway foot warm ";
    private static final int WORDS = 25;
    private static final int BRIDGE = 0;
    private static final int CALM = 1;
    private static final int HEAT = 2;
    private static final int HOLD = 3;
    private static final int WALKER = 4;
    private static final int FAT = 5;
    private static final int SLEEP = 6;
    private static final int GALE = 7;
    private static final int SEED = 8;
    private static final int MAY = 9;
    private static final int LAW = 10;
    private static final int RIGHT = 11;
    private static final int LEFT = 12;
    private static final int STAY = 13;
    private static final int PUSH = 14;
    private static final int SIDE = 15;
    private static final int OR = 16;
    private static final int AND = 17;
    private static final int NOT = 18;
    private static final int WEIGHT = 19;
    private static final int WARM = 24;
    private static final int LESS = 25;
    private static final int AT_MOST = 26;
    private static final int EQUAL = 27;
    private static final int UNLIKE = 28;
    private static final int AT_LEAST = 29;
    private static final int MORE = 30;
    private static final int PLUS = 31;
    private static final int MINUS = 32;
    private static final int TIMES = 33;
    private static final int OVER = 34;
    private static final int OPEN = 35;
    private static final int CLOSE = 36;
    private static final int LINE_END = 37;
    private static final int NUMBER = 38;
    private static final int NAME = 39;
    private static final int TEXT_END = 40;
    private static final int NO_TOKEN = 41;

    private static final int FAULT_TOKEN = 1;
    private static final int FAULT_TOO_MUCH = 2;
    private static final int FAULT_TOLD = 3;
    private static final int FAULT_LATE_BRIDGE = 4;
    private static final int FAULT_TAKEN = 5;

    private final byte[] tape = new byte[TAPE];
    private int fed;
    private final Parser parser = new Parser(tape);
    private Plan plan = new Plan();
    private Plan spare = new Plan();
    private final Scene now = new Scene(plan);
    private final Scene trial = new Scene(plan);
    private final Scene image = new Scene(plan);
    private boolean imageKept;
    private final int[] heights = new int[PAST];
    private final int[] imageHeights = new int[PAST];
    private final Groans groans = new Groans();
    private final Deeds deeds = new Deeds();
    private final Crowd loner = new Crowd();
    private final Law noLaw = new Law();
    private final int[] spots = new int[3];
    private final int[] bestSpots = new int[3];
    private int bestTimes;

    public WalkingBridge() {
    }

    // ---- the text ----

    public int feed(int a, int b, int c, int d, int e) {
        if (fed + 20 > TAPE) {
            return NONE;
        }
        append(a);
        append(b);
        append(c);
        append(d);
        append(e);
        return fed;
    }

    private void append(int number) {
        for (int shift = 24; shift >= 0; shift -= 8) {
            if (fed < TAPE) {
                tape[fed] = (byte) (number >>> shift);
                fed++;
            }
        }
    }

    public int text(int n) {
        if (n < 0 || n > fed) {
            return LACKING;
        }
        fed = 0;
        int lines = parser.read(spare, n);
        if (lines == NONE) {
            return NONE;
        }
        Plan told = spare;
        spare = plan;
        plan = told;
        begin();
        return lines;
    }

    private void begin() {
        now.begin(plan);
        groans.clear();
        deeds.clear();
        imageKept = false;
    }

    public int fault(int what) {
        if (what == 0) {
            return parser.fault;
        }
        return what == 1 ? parser.place : NONE;
    }

    public int named(int what, int letters) {
        if (what < 0 || what >= KINDS) {
            return NONE;
        }
        return plan.find(what, letters);
    }

    // ---- how it is now ----

    public int look(int walker, int what) throws IndexOutOfBoundsException, NoSuchElementException {
        if (!isWalker(walker)) {
            throw new IndexOutOfBoundsException("no such walker");
        }
        switch (what) {
            case 0:
                return now.stage[walker] == ON ? now.at[walker] : NONE;
            case 1:
                return plan.crowd.weight[walker];
            case 2:
                return plan.crowd.beat[walker];
            case 3:
                return now.steps[walker];
            case 4:
                return now.stage[walker];
            default:
                throw new NoSuchElementException("no such what");
        }
    }

    public int cell(int cell, int what) {
        if (!isCell(cell)) {
            return Integer.MIN_VALUE;
        }
        switch (what) {
            case 0:
                return now.up.out[cell];
            case 1:
                return now.up.speed[cell];
            case 2:
                return now.aside.out[cell];
            case 3:
                return now.aside.speed[cell];
            case 4:
                return now.calm[cell];
            case 5:
                return now.lost >> cell & 1;
            case 6:
                return now.walkersAt(cell);
            default:
                return Integer.MIN_VALUE;
        }
    }

    public long law(int what, int walker, int cell, int foot) {
        if (what < 0 || what > 1 || !isWalker(walker) || !isCell(cell) || foot < 0 || foot > 1) {
            return ERROR;
        }
        now.nameValues(plan.crowd.weight[walker], cell, foot);
        return what == 0 ? plan.push.value(now.names) : plan.side.value(now.names);
    }

    public int count(int what) {
        switch (what) {
            case 0:
                return plan.cells;
            case 1:
                return plan.told[WALKERS];
            case 2:
                return now.fats.size;
            case 3:
                return plan.told[SLEEPERS];
            case 4:
                return plan.told[MAYS];
            case 5:
                return plan.knots;
            case 6:
                return now.time;
            case 7:
                return groans.size;
            case 8:
                return groans.knownSize();
            case 9:
                return deeds.size;
            default:
                return countSway(what);
        }
    }

    private int countSway(int what) {
        switch (what) {
            case 10:
                return Integer.bitCount(now.lost);
            case 11:
                return now.blows ? 1 : 0;
            case 12:
                return now.up.greatest(plan.cells);
            case 13:
                return now.aside.greatest(plan.cells);
            default:
                return NONE;
        }
    }

    // ---- time, deeds, image ----

    public int beats(int n) {
        if (n < 0 || n > 200 || n > LAST_TIME - now.time) {
            return NONE;
        }
        for (int i = 0; i < n; i++) {
            int slot = slotOf(now.time);
            now.pass();
            heights[slot] = now.up.greatest(plan.cells);
        }
        if (n > 0) {
            deeds.clear();
        }
        return now.time;
    }

    public int was(int time) {
        if (time < 0 || time >= now.time || time < now.time - PAST) {
            return NONE;
        }
        return heights[slotOf(time)];
    }

    private static int slotOf(int time) {
        return Math.floorMod(time, PAST);
    }

    public int fat(int cell, int calm) {
        if (!isCell(cell) || !isCalm(calm) || now.fats.size >= MOST_FAT) {
            return NONE;
        }
        now.addFat(cell, calm);
        deeds.add(Deeds.FAT_CAME, cell, 0);
        return now.fats.size;
    }

    public boolean off(int walker) {
        if (!isWalker(walker) || now.stage[walker] == GONE) {
            return false;
        }
        deeds.add(Deeds.WALKER_WENT, walker, now.stage[walker]);
        now.stage[walker] = GONE;
        return true;
    }

    public boolean blow(boolean is) {
        if (now.blows == is) {
            return false;
        }
        now.blows = is;
        deeds.add(Deeds.WIND_TURNED, 0, 0);
        return true;
    }

    public int strike(int cell, int n) {
        if (!isCell(cell) || n < -999 || n > 999) {
            return Integer.MIN_VALUE;
        }
        int before = now.up.speed[cell];
        int after = within(before + n, FARTHEST);
        if (after != before) {
            now.up.speed[cell] = after;
            deeds.add(Deeds.CELL_STRUCK, cell, before);
        }
        return after;
    }

    public int undo() {
        if (deeds.size == 0) {
            return NONE;
        }
        deeds.size--;
        int which = deeds.which[deeds.size];
        int before = deeds.before[deeds.size];
        switch (deeds.kind[deeds.size]) {
            case Deeds.FAT_CAME:
                now.dropLastFat();
                break;
            case Deeds.WALKER_WENT:
                now.stage[which] = before;
                break;
            case Deeds.WIND_TURNED:
                now.blows = !now.blows;
                break;
            default:
                now.up.speed[which] = before;
                break;
        }
        return deeds.size;
    }

    public int keep() {
        image.copy(now);
        System.arraycopy(heights, 0, imageHeights, 0, PAST);
        imageKept = true;
        return now.time;
    }

    public int back() {
        if (!imageKept) {
            return NONE;
        }
        now.copy(image);
        System.arraycopy(imageHeights, 0, heights, 0, PAST);
        deeds.clear();
        return now.time;
    }

    // ---- what will be ----

    public int high(int n) {
        if (!isIn(n, 1, 64)) {
            return NONE;
        }
        tryFromNow(true);
        return trial.highest(n, FARTHEST);
    }

    public int creaks(int sleeper) {
        if (sleeper < 0 || sleeper >= plan.told[SLEEPERS]) {
            return NONE;
        }
        int cell = plan.sleepCell[sleeper];
        tryFromNow(true);
        for (int times = 1; times <= 64; times++) {
            trial.pass();
            if (Math.abs(trial.up.out[cell]) >= plan.sleepWake[sleeper]) {
                return times;
            }
        }
        return LACKING;
    }

    public int lies(int n, int k, int calm, int what) {
        if (!isIn(n, 1, 32) || !isIn(k, 0, 3) || !isCalm(calm) || !isIn(what, 0, 3)
                || now.fats.size + k > MOST_FAT) {
            return NONE;
        }
        if (what > k) {
            return LACKING;
        }
        int least = leastHigh(n, k, calm, FARTHEST);
        return what == 0 ? least : bestSpots[what - 1];
    }

    public int fewest(int n, int calm, int bound) {
        if (!isIn(n, 1, 32) || !isCalm(calm) || !isIn(bound, 0, FARTHEST)) {
            return NONE;
        }
        for (int k = 0; k <= 3 && now.fats.size + k <= MOST_FAT; k++) {
            if (leastHigh(n, k, calm, bound) <= bound) {
                return k;
            }
        }
        return LACKING;
    }

    /** The least HIGH with k more fat ones if it is at most the bound (bestSpots has their cells), else more. */
    private int leastHigh(int n, int k, int calm, int bound) {
        int least = bound + 1;
        int tries = LONGEST * LONGEST * LONGEST;
        Arrays.fill(spots, 0);
        boolean more = true;
        for (int i = 0; i < tries && more; i++) {
            tryFromNow(true);
            for (int j = 0; j < k; j++) {
                trial.addFat(spots[j], calm);
            }
            int high = trial.highest(n, least - 1);
            if (high < least) {
                least = high;
                System.arraycopy(spots, 0, bestSpots, 0, spots.length);
            }
            more = nextSpots(k);
        }
        return least;
    }

    private boolean nextSpots(int k) {
        for (int j = k - 1; j >= 0; j--) {
            if (spots[j] < plan.cells - 1) {
                int spot = spots[j] + 1;
                for (int behind = j; behind < k; behind++) {
                    spots[behind] = spot;
                }
                return true;
            }
        }
        return false;
    }

    public int forbidden(int n, int weight, int what) {
        if (!isIn(n, 1, 64) || !isIn(weight, 1, 30) || !isIn(what, 0, 1)) {
            return NONE;
        }
        int worst = 1;
        int greatest = NONE;
        for (int beat = 1; beat <= 9; beat++) {
            tryFromRest();
            loner.size = 0;
            loner.add(weight, beat, 0, 1, 0);
            trial.crowd = loner;
            int high = trial.highest(n, FARTHEST);
            if (high > greatest) {
                greatest = high;
                worst = beat;
            }
        }
        return what == 0 ? worst : greatest;
    }

    public int cancel(int one, int other, int n) {
        if (!isWalker(one) || !isWalker(other) || one == other || !isIn(n, 1, 64)) {
            return Integer.MIN_VALUE;
        }
        int first = 1 << one;
        int second = 1 << other;
        return highOfSet(first, n) + highOfSet(second, n) - highOfSet(first | second, n);
    }

    private int highOfSet(int set, int n) {
        tryFromRest();
        trial.leaveOnly(set);
        return trial.highest(n, FARTHEST);
    }

    public int owes(int walker, int n) {
        if (!isWalker(walker) || !isIn(n, 1, 64)) {
            return NONE;
        }
        tryFromNow(true);
        int with = trial.highest(n, FARTHEST);
        tryFromNow(true);
        trial.stage[walker] = GONE;
        return Math.max(0, with - trial.highest(n, FARTHEST));
    }

    public int pump(int cell, int force, int n, int what) {
        if (!isCell(cell) || !isIn(force, 1, STRONGEST) || !isIn(n, 1, 7) || !isIn(what, 0, 1)) {
            return NONE;
        }
        int greatest = greatestPumped(cell, force, n, NONE, 0);
        return what == 0 ? greatest : bestTimes;
    }

    public int keeper(int cell, int force, int n, int calm, int what) {
        if (!isCell(cell) || !isIn(force, 1, STRONGEST) || !isIn(n, 1, 5) || !isCalm(calm)
                || !isIn(what, 0, 1) || now.fats.size >= MOST_FAT) {
            return NONE;
        }
        int best = 0;
        int least = Integer.MAX_VALUE;
        for (int spot = 0; spot < plan.cells; spot++) {
            int greatest = greatestPumped(cell, force, n, spot, calm);
            if (greatest < least) {
                least = greatest;
                best = spot;
            }
        }
        return what == 0 ? best : least;
    }

    /** What boys reach at best (bestTimes has when they push), a keeper standing at the spot if there is one. */
    private int greatestPumped(int cell, int force, int n, int spot, int calm) {
        int greatest = NONE;
        for (int times = 0; times < 1 << n; times++) {
            tryFromNow(true);
            if (spot != NONE) {
                trial.addFat(spot, calm);
            }
            for (int i = 0; i < n; i++) {
                trial.up.push[cell] -= (times >> i & 1) * force;
                trial.pass();
            }
            int reached = trial.up.greatest(plan.cells);
            if (reached > greatest) {
                greatest = reached;
                bestTimes = times;
            }
        }
        return greatest;
    }

    // ---- groans ----

    public int groan(int time, int cell, int much, boolean is) {
        if (!isIn(time, 0, 63) || !isCell(cell) || !isIn(much, 0, MOST_BOUND)) {
            return NONE;
        }
        return groans.add(time, cell, much, is);
    }

    public int unsay(int groan) {
        return groans.addStrike(groan);
    }

    public boolean known(int n) {
        if (n < NONE || n > groans.size) {
            return false;
        }
        groans.known = n;
        return true;
    }

    public int began() {
        return Long.bitCount(beginners());
    }

    public int set(int k) {
        if (k < 0) {
            return NONE;
        }
        long sets = beginners();
        int behind = k;
        for (int set = 0; set < 64; set++) {
            if ((sets >>> set & 1) == 1) {
                if (behind == 0) {
                    return set;
                }
                behind--;
            }
        }
        return LACKING;
    }

    public int sure(int walker) {
        if (!isWalker(walker)) {
            return NONE;
        }
        long sets = beginners();
        if (sets == 0) {
            return LACKING;
        }
        int with = 0;
        for (int set = 0; set < 64; set++) {
            if ((sets >>> set & 1) == 1) {
                with += set >> walker & 1;
            }
        }
        if (with == 0) {
            return 0;
        }
        return with == Long.bitCount(sets) ? 1 : 2;
    }

    /** The sets of walkers with whom the known groans are so: the bit of a set's own number is 1. */
    private long beginners() {
        int known = groans.knownBits();
        long sets = 0;
        for (int set = 0; set < 1 << plan.told[WALKERS]; set++) {
            tryFromRest();
            trial.leaveOnly(set);
            if (groansAreSo(known)) {
                sets |= 1L << set;
            }
        }
        return sets;
    }

    public int fits() {
        int known = groans.knownBits();
        int mays = plan.told[MAYS];
        int fitting = 0;
        for (int i = 0; i <= mays; i++) {
            tryFromRest();
            if (i < mays) {
                trial.push = plan.may[i];
            }
            if (groansAreSo(known)) {
                fitting |= 1 << i;
            }
        }
        return fitting;
    }

    private boolean groansAreSo(int known) {
        int last = groans.lastTime(known);
        for (int time = 0; time <= last; time++) {
            trial.pass();
            if (!groans.areSo(known, time, trial.up.out)) {
                return false;
            }
        }
        return true;
    }

    // ---- tried otherwise ----

    public int gales(int seed, int n, int bound) {
        if (seed < 0 || !isIn(n, 1, 32) || !isIn(bound, 0, MOST_BOUND)) {
            return NONE;
        }
        int held = 0;
        int chance = seed;
        for (int gale = 0; gale < 10; gale++) {
            tryFromNow(false);
            trial.blows = true;
            trial.chance = chance;
            if (sidesStayWithin(n, bound)) {
                held++;
            }
            chance = trial.chance;
        }
        return held;
    }

    /** All n times go by even if a side is beyond the bound early: the next gale's numbers come behind these. */
    private boolean sidesStayWithin(int n, int bound) {
        boolean within = true;
        for (int i = 0; i < n; i++) {
            trial.pass();
            if (trial.aside.greatest(plan.cells) > bound) {
                within = false;
            }
        }
        return within;
    }

    public int tried(int what, int i, int n) {
        if (!isIn(what, 0, 11) || !isIn(n, 0, 64)) {
            return NONE;
        }
        boolean asksUp = what < 6;
        int change = asksUp ? what : what - 6;
        if (change == 3 ? !isWalker(i) : i != 0) {
            return NONE;
        }
        tryFromNow(asksUp);
        changeTrial(change, i);
        for (int times = 0; times < n; times++) {
            trial.pass();
        }
        return asksUp ? trial.up.greatest(plan.cells) : trial.aside.greatest(plan.cells);
    }

    private void changeTrial(int change, int walker) {
        switch (change) {
            case 0:
                trial.heat = 0;
                break;
            case 1:
                trial.dropAllFat();
                break;
            case 2:
                trial.leaveOnly(0);
                break;
            case 3:
                trial.stage[walker] = GONE;
                break;
            case 4:
                trial.blows = true;
                break;
            default:
                trial.side = noLaw;
                break;
        }
    }

    private void tryFromNow(boolean upOnly) {
        trial.copy(now);
        trial.blows = false;
        trial.upOnly = upOnly;
    }

    private void tryFromRest() {
        tryFromNow(true);
        trial.rest();
    }

    private boolean isWalker(int walker) {
        return walker >= 0 && walker < plan.told[WALKERS];
    }

    private boolean isCell(int cell) {
        return cell >= 0 && cell < plan.cells;
    }

    private static boolean isCalm(int calm) {
        return isIn(calm, 1, 99);
    }

    private static boolean isIn(int number, int least, int most) {
        return number >= least && number <= most;
    }

    private static int within(int number, int bound) {
        return Math.max(-bound, Math.min(bound, number));
    }

    /** What a text told: the bridge, who comes, who sleeps, the laws. */
    private static final class Plan {
        int cells;
        int stiffUp;
        int stiffSide;
        int calm;
        int heat;
        int hold;
        int gale;
        int seed;
        int knots;
        final int[] told = new int[KINDS];
        final int[][] names = new int[KINDS][MOST_WALKERS];
        final Crowd crowd = new Crowd();
        final Fats fats = new Fats();
        final int[] sleepCell = new int[MOST_SLEEPERS];
        final int[] sleepWake = new int[MOST_SLEEPERS];
        final Law push = new Law();
        final Law side = new Law();
        final Law[] may = {new Law(), new Law(), new Law()};

        Plan() {
            clear();
        }

        void clear() {
            cells = 8;
            stiffUp = 4;
            stiffSide = 4;
            calm = 5;
            heat = 0;
            hold = 0;
            gale = 0;
            seed = 0;
            knots = 0;
            Arrays.fill(told, 0);
            crowd.size = 0;
            fats.size = 0;
            push.size = 0;
            side.size = 0;
            for (int i = 0; i < MOST_MAY; i++) {
                may[i].size = 0;
            }
        }

        int find(int kind, int letters) {
            for (int i = 0; i < told[kind]; i++) {
                if (names[kind][i] == letters) {
                    return i;
                }
            }
            return NONE;
        }

        void addName(int kind, int letters) {
            if (told[kind] < MOST_TOLD[kind]) {
                names[kind][told[kind]] = letters;
                told[kind]++;
            }
        }

        /** One number of a line that has no other. */
        void setNumber(int word, int number) {
            switch (word) {
                case CALM:
                    calm = number;
                    break;
                case HEAT:
                    heat = number;
                    break;
                case HOLD:
                    hold = number;
                    break;
                case GALE:
                    gale = number;
                    break;
                default:
                    seed = number;
                    break;
            }
        }
    }

    /** Walkers as they are told; where they are is the scene's. */
    private static final class Crowd {
        int size;
        final int[] weight = new int[MOST_WALKERS];
        final int[] beat = new int[MOST_WALKERS];
        final int[] from = new int[MOST_WALKERS];
        final int[] way = new int[MOST_WALKERS];
        final int[] stay = new int[MOST_WALKERS];

        /** The way: 1 right, -1 left, 0 one who stays at a cell. */
        void add(int aWeight, int aBeat, int start, int aWay, int cell) {
            if (size < MOST_WALKERS) {
                weight[size] = aWeight;
                beat[size] = aBeat;
                from[size] = start;
                way[size] = aWay;
                stay[size] = cell;
                size++;
            }
        }

        boolean stepsAt(int walker, int time) {
            int since = time - from[walker];
            return since >= 0 && beat[walker] > 0 && since % beat[walker] == 0;
        }

        int firstCell(int walker, int cells) {
            if (way[walker] == 0) {
                return stay[walker];
            }
            return way[walker] > 0 ? 0 : cells - 1;
        }
    }

    /** Those who stand still and calm the cell where they stand. */
    private static final class Fats {
        int size;
        final int[] cell = new int[MOST_FAT];
        final int[] calm = new int[MOST_FAT];

        void add(int aCell, int aCalm) {
            if (size < MOST_FAT) {
                cell[size] = aCell;
                calm[size] = aCalm;
                size++;
            }
        }

        boolean standsAt(int aCell) {
            for (int i = 0; i < size; i++) {
                if (cell[i] == aCell) {
                    return true;
                }
            }
            return false;
        }

        void copy(Fats other) {
            size = other.size;
            System.arraycopy(other.cell, 0, cell, 0, MOST_FAT);
            System.arraycopy(other.calm, 0, calm, 0, MOST_FAT);
        }
    }

    /** A law's knots, operands ahead of their sign: a number as it is, any other knot as -1 less its token's kind. */
    private static final class Law {
        int size;
        private final int[] knots = new int[MOST_KNOTS];
        private final long[] stack = new long[MOST_KNOTS];

        void addKnot(int knot) {
            if (size < MOST_KNOTS) {
                knots[size] = knot;
                size++;
            }
        }

        /** ERROR also for a law that was not told: both count alike wherever a law is used. */
        long value(int[] names) {
            int top = 0;
            for (int i = 0; i < size; i++) {
                int kind = -1 - knots[i];
                if (kind < 0) {
                    stack[top] = knots[i];
                    top++;
                } else if (kind >= WEIGHT && kind <= WARM) {
                    stack[top] = names[kind - WEIGHT];
                    top++;
                } else if (kind == NOT && top > 0) {
                    stack[top - 1] = stack[top - 1] == 0 ? 1 : 0;
                } else if (top > 1) {
                    top--;
                    long joined = join(kind, stack[top - 1], stack[top]);
                    if (joined > GREATEST_VALUE || joined < -GREATEST_VALUE) {
                        return ERROR;
                    }
                    stack[top - 1] = joined;
                } else {
                    return ERROR;
                }
            }
            return top == 1 ? stack[0] : ERROR;
        }

        /** ERROR where the value can't be had; one that is beyond its bounds may come as it is. */
        private static long join(int sign, long left, long right) {
            switch (sign) {
                case PLUS:
                    return left + right;
                case MINUS:
                    return left - right;
                case TIMES:
                    return left != 0 && Math.abs(right) > GREATEST_VALUE / Math.abs(left) ? ERROR : left * right;
                case OVER:
                    return right == 0 ? ERROR : left / right;
                default:
                    return holds(sign, left, right) ? 1 : 0;
            }
        }

        private static boolean holds(int sign, long left, long right) {
            switch (sign) {
                case OR:
                    return left != 0 || right != 0;
                case AND:
                    return left != 0 && right != 0;
                case LESS:
                    return left < right;
                case AT_MOST:
                    return left <= right;
                case EQUAL:
                    return left == right;
                case UNLIKE:
                    return left != right;
                case AT_LEAST:
                    return left >= right;
                default:
                    return left > right;
            }
        }
    }

    /** One way to sway, up or sideways: how far each cell is out, its speed, what pushes it at this time. */
    private static final class Sway {
        final int[] out = new int[LONGEST];
        final int[] speed = new int[LONGEST];
        final int[] push = new int[LONGEST];

        void rest() {
            Arrays.fill(out, 0);
            Arrays.fill(speed, 0);
            Arrays.fill(push, 0);
        }

        void copy(Sway other) {
            System.arraycopy(other.out, 0, out, 0, LONGEST);
            System.arraycopy(other.speed, 0, speed, 0, LONGEST);
            System.arraycopy(other.push, 0, push, 0, LONGEST);
        }

        /** Speeds first, of all cells: each looks at its neighbours as they were. */
        void move(int cells, int stiff, int[] calm) {
            for (int c = 0; c < cells; c++) {
                int beside = (c > 0 ? out[c - 1] : 0) + (c + 1 < cells ? out[c + 1] : 0);
                int faster = speed[c] + stiff * (beside - 2 * out[c]) / 16 + push[c];
                speed[c] = within(faster - faster * calm[c] / 100, FARTHEST);
                push[c] = 0;
            }
            for (int c = 0; c < cells; c++) {
                out[c] = within(out[c] + speed[c], FARTHEST);
            }
        }

        int greatest(int cells) {
            int greatest = 0;
            for (int c = 0; c < cells; c++) {
                greatest = Math.max(greatest, Math.abs(out[c]));
            }
            return greatest;
        }
    }

    /** The bridge at a time, and by which laws and for whom its next times go by. */
    private static final class Scene {
        Plan plan;
        Crowd crowd;
        Law push;
        Law side;
        int heat;
        final Sway up = new Sway();
        final Sway aside = new Sway();
        /** The bit of a cell: its plank is lost. */
        int lost;
        final int[] at = new int[MOST_WALKERS];
        final int[] steps = new int[MOST_WALKERS];
        final int[] stage = new int[MOST_WALKERS];
        final Fats fats = new Fats();
        final int[] calm = new int[LONGEST];
        final int[] names = new int[WARM - WEIGHT + 1];
        int time;
        int chance;
        boolean blows;
        /** Up never depends on the side, so questions about up alone leave the side out. */
        boolean upOnly;

        Scene(Plan told) {
            begin(told);
        }

        void begin(Plan told) {
            plan = told;
            crowd = told.crowd;
            push = told.push;
            side = told.side;
            heat = told.heat;
            chance = told.seed;
            blows = false;
            upOnly = false;
            fats.copy(told.fats);
            refreshCalm();
            rest();
        }

        /** As the text begins; who is fat stays. */
        void rest() {
            up.rest();
            aside.rest();
            lost = 0;
            Arrays.fill(at, 0);
            Arrays.fill(steps, 0);
            Arrays.fill(stage, TO_COME);
            time = 0;
        }

        void copy(Scene other) {
            plan = other.plan;
            crowd = other.crowd;
            push = other.push;
            side = other.side;
            heat = other.heat;
            up.copy(other.up);
            aside.copy(other.aside);
            lost = other.lost;
            System.arraycopy(other.at, 0, at, 0, MOST_WALKERS);
            System.arraycopy(other.steps, 0, steps, 0, MOST_WALKERS);
            System.arraycopy(other.stage, 0, stage, 0, MOST_WALKERS);
            fats.copy(other.fats);
            System.arraycopy(other.calm, 0, calm, 0, LONGEST);
            time = other.time;
            chance = other.chance;
            blows = other.blows;
            upOnly = other.upOnly;
        }

        void addFat(int cell, int more) {
            fats.add(cell, more);
            refreshCalm();
        }

        void dropLastFat() {
            fats.size = Math.max(0, fats.size - 1);
            refreshCalm();
        }

        void dropAllFat() {
            fats.size = 0;
            refreshCalm();
        }

        private void refreshCalm() {
            Arrays.fill(calm, plan.calm);
            for (int i = 0; i < fats.size; i++) {
                int cell = fats.cell[i];
                calm[cell] = Math.min(100, calm[cell] + fats.calm[i]);
            }
        }

        void leaveOnly(int set) {
            for (int w = 0; w < MOST_WALKERS; w++) {
                if ((set >> w & 1) == 0) {
                    stage[w] = GONE;
                }
            }
        }

        /** The greatest height of the next n times; it stops with the first one above the limit. */
        int highest(int n, int limit) {
            int highest = 0;
            for (int i = 0; i < n && highest <= limit; i++) {
                pass();
                highest = Math.max(highest, up.greatest(plan.cells));
            }
            return highest;
        }

        void pass() {
            for (int w = 0; w < crowd.size; w++) {
                if (stage[w] != GONE && crowd.stepsAt(w, time)) {
                    step(w);
                }
            }
            if (blows && plan.gale > 0) {
                gust();
            }
            up.move(plan.cells, Math.max(0, plan.stiffUp - heat), calm);
            if (!upOnly) {
                aside.move(plan.cells, plan.stiffSide, calm);
            }
            if (plan.hold > 0) {
                losePlanks();
            }
            time++;
        }

        private void step(int walker) {
            steps[walker]++;
            int cell = steps[walker] == 1 ? crowd.firstCell(walker, plan.cells) : at[walker] + crowd.way[walker];
            if (cell < 0 || cell >= plan.cells || (lost >> cell & 1) == 1) {
                stage[walker] = GONE;
                return;
            }
            at[walker] = cell;
            stage[walker] = ON;
            int weight = crowd.weight[walker];
            int foot = steps[walker] & 1;
            nameValues(weight, cell, foot);
            up.push[cell] -= force(push.value(names), weight);
            if (!upOnly) {
                int sideways = force(side.value(names), 0);
                aside.push[cell] += foot == 1 ? sideways : -sideways;
            }
        }

        private static int force(long value, int without) {
            if (value == ERROR) {
                return without;
            }
            return (int) Math.max(-STRONGEST, Math.min(STRONGEST, value));
        }

        /** In the order of the language's words: weight time place sway foot warm. */
        void nameValues(int weight, int cell, int foot) {
            names[0] = weight;
            names[1] = time;
            names[2] = cell;
            names[3] = up.out[cell];
            names[4] = foot;
            names[5] = heat;
        }

        private void gust() {
            for (int c = 0; c < plan.cells; c++) {
                chance = (int) (chance * 1103515245L + 12345L & 0x7fffffffL);
                aside.push[c] += chance / 65536 % (2 * plan.gale + 1) - plan.gale;
            }
        }

        private void losePlanks() {
            for (int c = 0; c < plan.cells; c++) {
                if (Math.abs(up.out[c]) > plan.hold) {
                    lost |= 1 << c;
                }
            }
        }

        int walkersAt(int cell) {
            int count = 0;
            for (int w = 0; w < crowd.size; w++) {
                count += stage[w] == ON && at[w] == cell ? 1 : 0;
            }
            return count;
        }
    }

    /** Groans and strikes in one row; a strike's target is always ahead of it. */
    private static final class Groans {
        int size;
        int known = NONE;
        private final int[] time = new int[MOST_GROANS];
        private final int[] cell = new int[MOST_GROANS];
        private final int[] much = new int[MOST_GROANS];
        private final boolean[] atLeast = new boolean[MOST_GROANS];
        private final int[] strikes = new int[MOST_GROANS];

        void clear() {
            size = 0;
            known = NONE;
        }

        int add(int aTime, int aCell, int aMuch, boolean is) {
            if (size >= MOST_GROANS) {
                return NONE;
            }
            time[size] = aTime;
            cell[size] = aCell;
            much[size] = aMuch;
            atLeast[size] = is;
            strikes[size] = NONE;
            size++;
            return size - 1;
        }

        int addStrike(int target) {
            if (target < 0 || target >= size || size >= MOST_GROANS) {
                return NONE;
            }
            strikes[size] = target;
            size++;
            return size - 1;
        }

        int knownSize() {
            return known == NONE ? size : known;
        }

        /** From the last one on: what strikes a strike is then settled before that strike is asked. */
        int knownBits() {
            int bits = 0;
            int struck = 0;
            for (int i = knownSize() - 1; i >= 0; i--) {
                if ((struck >> i & 1) == 1) {
                    continue;
                }
                if (strikes[i] == NONE) {
                    bits |= 1 << i;
                } else {
                    struck |= 1 << strikes[i];
                }
            }
            return bits;
        }

        int lastTime(int bits) {
            int last = NONE;
            for (int i = 0; i < size; i++) {
                if ((bits >> i & 1) == 1) {
                    last = Math.max(last, time[i]);
                }
            }
            return last;
        }

        boolean areSo(int bits, int behind, int[] up) {
            for (int i = 0; i < size; i++) {
                boolean asked = (bits >> i & 1) == 1 && time[i] == behind;
                if (asked && atLeast[i] != (Math.abs(up[cell[i]]) >= much[i])) {
                    return false;
                }
            }
            return true;
        }
    }

    /** What can be undone, the latest last. */
    private static final class Deeds {
        static final int FAT_CAME = 0;
        static final int WALKER_WENT = 1;
        static final int WIND_TURNED = 2;
        static final int CELL_STRUCK = 3;

        int size;
        final int[] kind = new int[MOST_DEEDS];
        final int[] which = new int[MOST_DEEDS];
        final int[] before = new int[MOST_DEEDS];

        void clear() {
            size = 0;
        }

        void add(int aKind, int aWhich, int wasBefore) {
            if (size >= MOST_DEEDS) {
                forgetFirst();
            }
            kind[size] = aKind;
            which[size] = aWhich;
            before[size] = wasBefore;
            size++;
        }

        private void forgetFirst() {
            System.arraycopy(kind, 1, kind, 0, MOST_DEEDS - 1);
            System.arraycopy(which, 1, which, 0, MOST_DEEDS - 1);
            System.arraycopy(before, 1, before, 0, MOST_DEEDS - 1);
            size = MOST_DEEDS - 1;
        }
    }

    /** Cuts the tape into tokens; kind, place, number and letters are the token's at hand. */
    private static final class Reader {
        private static final int TOO_GREAT = 1000000;

        int kind;
        int place;
        int number;
        int letters;
        private final byte[] bytes;
        private int length;
        private int next;
        private final int[] words = new int[WORDS];

        Reader(byte[] tape) {
            bytes = tape;
            int word = 0;
            int spelled = 0;
            int signs = 0;
            for (int i = 0; i < LANGUAGE.length() && word < WORDS; i++) {
                char sign = LANGUAGE.charAt(i);
                if (sign == ' ') {
                    words[word] = spelled;
                    word++;
                    spelled = 0;
                    signs = 0;
                } else {
                    spelled |= letterBits(sign, signs);
                    signs++;
                }
            }
        }

        /** A letter's five bits where the order of six letters has them; nothing for a seventh. */
        private static int letterBits(int sign, int order) {
            return order < 6 ? sign - 'a' + 1 << 5 * (5 - order) : 0;
        }

        void start(int n) {
            length = Math.min(n, bytes.length);
            next = 0;
            advance();
        }

        void advance() {
            while (next < length && (bytes[next] == 10 || bytes[next] == 32)) {
                next++;
            }
            place = next;
            int sign = signAt(next);
            if (sign == NONE) {
                kind = TEXT_END;
            } else if (isLetter(sign)) {
                readWord();
            } else if (isDigit(sign)) {
                readNumber();
            } else {
                readSign(sign);
            }
        }

        private int signAt(int index) {
            return index < length ? bytes[index] & 255 : NONE;
        }

        private static boolean isLetter(int sign) {
            return sign >= 'a' && sign <= 'z';
        }

        private static boolean isDigit(int sign) {
            return sign >= '0' && sign <= '9';
        }

        private void readWord() {
            letters = 0;
            while (next < length && isLetter(bytes[next])) {
                letters |= letterBits(bytes[next], next - place);
                next++;
            }
            kind = next - place > 6 ? NO_TOKEN : wordKind();
        }

        private int wordKind() {
            for (int word = 0; word < WORDS; word++) {
                if (words[word] == letters) {
                    return word;
                }
            }
            return NAME;
        }

        private void readNumber() {
            number = 0;
            while (next < length && isDigit(bytes[next])) {
                number = Math.min(TOO_GREAT, number * 10 + bytes[next] - '0');
                next++;
            }
            kind = NUMBER;
        }

        private void readSign(int sign) {
            next++;
            int behind = signAt(next);
            if (sign == '<' && behind == '=') {
                kind = AT_MOST;
                next++;
            } else if (sign == '<' && behind == '>') {
                kind = UNLIKE;
                next++;
            } else if (sign == '>' && behind == '=') {
                kind = AT_LEAST;
                next++;
            } else {
                kind = singleSign(sign);
            }
        }

        private static int singleSign(int sign) {
            switch (sign) {
                case '<':
                    return LESS;
                case '=':
                    return EQUAL;
                case '>':
                    return MORE;
                case '+':
                    return PLUS;
                case '-':
                    return MINUS;
                case '*':
                    return TIMES;
                case '/':
                    return OVER;
                case '(':
                    return OPEN;
                case ')':
                    return CLOSE;
                case ';':
                    return LINE_END;
                default:
                    return NO_TOKEN;
            }
        }
    }

    /** Reads one E into a law; signs wait in a row until all that binds closer has been put down. */
    private static final class Formula {
        private static final int TOP_NUMBER = 9999;

        private final Reader reader;
        private Plan plan;
        private Law law;
        private final int[] waiting = new int[MOST_KNOTS + MOST_OPEN];
        private int waits;
        private int open;
        /** The bit of how many '(' are open: the C at hand has its comparison. */
        private int compared;
        private boolean operandDue;
        private boolean notMayCome;

        Formula(Reader tokens) {
            reader = tokens;
        }

        /** The fault at the token at hand; 0: E has ended there. */
        int read(Plan told, Law target) {
            plan = told;
            law = target;
            law.size = 0;
            waits = 0;
            open = 0;
            compared = 0;
            operandDue = true;
            notMayCome = true;
            for (int i = 0; i <= TAPE; i++) {
                if (!operandDue && open == 0 && reader.kind == LINE_END) {
                    putDown(1);
                    return 0;
                }
                int fault = operandDue ? readOperand(reader.kind) : readSign(reader.kind);
                if (fault != 0) {
                    return fault;
                }
                reader.advance();
            }
            return FAULT_TOKEN;
        }

        private int readOperand(int kind) {
            if (kind == OPEN) {
                return readOpen();
            }
            boolean leaf = kind == NUMBER || kind >= WEIGHT && kind <= WARM;
            if (!leaf && !(kind == NOT && notMayCome)) {
                return FAULT_TOKEN;
            }
            if (plan.knots >= MOST_KNOTS || kind == NUMBER && reader.number > TOP_NUMBER) {
                return FAULT_TOO_MUCH;
            }
            plan.knots++;
            if (kind == NOT) {
                await(NOT);
            } else if (kind == NUMBER) {
                law.addKnot(reader.number);
            } else {
                law.addKnot(-1 - kind);
            }
            operandDue = !leaf;
            return 0;
        }

        private int readOpen() {
            if (open >= MOST_OPEN) {
                return FAULT_TOO_MUCH;
            }
            open++;
            compared &= ~(1 << open);
            await(OPEN);
            notMayCome = true;
            return 0;
        }

        private int readSign(int kind) {
            if (kind == CLOSE && open > 0) {
                putDown(1);
                waits = Math.max(0, waits - 1);
                open--;
                return 0;
            }
            int binding = bindingOf(kind);
            boolean compares = binding == 4;
            if (binding == 0 || kind == NOT || compares && (compared >> open & 1) == 1) {
                return FAULT_TOKEN;
            }
            if (plan.knots >= MOST_KNOTS) {
                return FAULT_TOO_MUCH;
            }
            plan.knots++;
            putDown(binding);
            await(kind);
            notMayCome = kind == AND || kind == OR;
            if (compares) {
                compared |= 1 << open;
            } else if (notMayCome) {
                compared &= ~(1 << open);
            }
            operandDue = true;
            return 0;
        }

        private void await(int kind) {
            if (waits < waiting.length) {
                waiting[waits] = kind;
                waits++;
            }
        }

        /** What waits behind the last open '(' and binds at least so close goes into the law. */
        private void putDown(int binding) {
            while (waits > 0 && bindingOf(waiting[waits - 1]) >= binding) {
                waits--;
                law.addKnot(-1 - waiting[waits]);
            }
        }

        private static int bindingOf(int kind) {
            switch (kind) {
                case OR:
                    return 1;
                case AND:
                    return 2;
                case NOT:
                    return 3;
                case PLUS:
                case MINUS:
                    return 5;
                case TIMES:
                case OVER:
                    return 6;
                default:
                    return kind >= LESS && kind <= MORE ? 4 : 0;
            }
        }
    }

    /** Reads a text into a plan; the first fault ends it. */
    private static final class Parser {
        int fault;
        int place = NONE;
        private final Reader reader;
        private final Formula formula;
        private Plan plan;
        /** The bit of a word: its line was told. */
        private int told;
        private boolean cellTold;

        Parser(byte[] tape) {
            reader = new Reader(tape);
            formula = new Formula(reader);
        }

        /** How many lines the first n bytes have; NONE with a fault. */
        int read(Plan target, int n) {
            plan = target;
            plan.clear();
            fault = 0;
            place = NONE;
            told = 0;
            cellTold = false;
            reader.start(n);
            for (int lines = 0; lines <= TAPE; lines++) {
                if (reader.kind == TEXT_END) {
                    return lines;
                }
                if (!readLine() || !take(LINE_END)) {
                    return NONE;
                }
            }
            return NONE;
        }

        private boolean readLine() {
            switch (reader.kind) {
                case BRIDGE:
                    return readBridge();
                case CALM:
                case GALE:
                    return readSetting(99);
                case HEAT:
                    return readSetting(9);
                case HOLD:
                    return readSetting(9999);
                case SEED:
                    return readSetting(99999);
                case WALKER:
                    return readWalker();
                case FAT:
                    return readFat();
                case SLEEP:
                    return readSleeper();
                case MAY:
                    return readMay();
                case LAW:
                    return readLaw();
                default:
                    return fail(FAULT_TOKEN);
            }
        }

        private boolean readBridge() {
            if (!takeOnce()) {
                return false;
            }
            int cells = takeNumber(2, LONGEST);
            int stiffUp = cells == NONE ? NONE : takeNumber(0, 9);
            int stiffSide = stiffUp == NONE ? NONE : takeNumber(0, 9);
            if (stiffSide == NONE) {
                return false;
            }
            plan.cells = cells;
            plan.stiffUp = stiffUp;
            plan.stiffSide = stiffSide;
            return true;
        }

        private boolean readSetting(int most) {
            int word = reader.kind;
            if (!takeOnce()) {
                return false;
            }
            int number = takeNumber(0, most);
            if (number == NONE) {
                return false;
            }
            plan.setNumber(word, number);
            return true;
        }

        private boolean readWalker() {
            if (!takeNamed(WALKERS)) {
                return false;
            }
            int weight = takeNumber(1, 30);
            int beat = weight == NONE ? NONE : takeNumber(1, 9);
            int from = beat == NONE ? NONE : takeNumber(0, 60);
            if (from == NONE) {
                return false;
            }
            if (reader.kind == STAY) {
                reader.advance();
                cellTold = true;
                int cell = takeNumber(0, plan.cells - 1);
                plan.crowd.add(weight, beat, from, 0, cell);
                return cell != NONE;
            }
            plan.crowd.add(weight, beat, from, reader.kind == LEFT ? -1 : 1, 0);
            return reader.kind == LEFT ? take(LEFT) : take(RIGHT);
        }

        private boolean readFat() {
            if (!takeNamed(FAT_ONES)) {
                return false;
            }
            int before = reader.place;
            cellTold = true;
            int cell = takeNumber(0, plan.cells - 1);
            if (cell == NONE) {
                return false;
            }
            if (plan.fats.standsAt(cell)) {
                return failAt(FAULT_TAKEN, before);
            }
            int calm = takeNumber(1, 99);
            plan.fats.add(cell, calm);
            return calm != NONE;
        }

        private boolean readSleeper() {
            int sleeper = plan.told[SLEEPERS];
            if (!takeNamed(SLEEPERS)) {
                return false;
            }
            cellTold = true;
            int cell = takeNumber(0, plan.cells - 1);
            int wake = cell == NONE ? NONE : takeNumber(1, 9999);
            if (wake == NONE || sleeper >= MOST_SLEEPERS) {
                return false;
            }
            plan.sleepCell[sleeper] = cell;
            plan.sleepWake[sleeper] = wake;
            return true;
        }

        private boolean readMay() {
            int may = plan.told[MAYS];
            if (!takeNamed(MAYS) || may >= MOST_MAY) {
                return false;
            }
            int found = formula.read(plan, plan.may[may]);
            return found == 0 || fail(found);
        }

        private boolean readLaw() {
            reader.advance();
            int kind = reader.kind;
            if (kind != PUSH && kind != SIDE) {
                return fail(FAULT_TOKEN);
            }
            if (!takeOnce()) {
                return false;
            }
            int found = formula.read(plan, kind == PUSH ? plan.push : plan.side);
            return found == 0 || fail(found);
        }

        private boolean take(int kind) {
            if (reader.kind != kind) {
                return fail(FAULT_TOKEN);
            }
            reader.advance();
            return true;
        }

        /** Takes a word that only one line may have, and the bridge only ahead of all cells. */
        private boolean takeOnce() {
            int bit = 1 << reader.kind;
            if ((told & bit) != 0) {
                return fail(FAULT_TOLD);
            }
            if (reader.kind == BRIDGE && cellTold) {
                return fail(FAULT_LATE_BRIDGE);
            }
            told |= bit;
            reader.advance();
            return true;
        }

        /** Takes the word of a line that tells one more of a kind, and the name behind it. */
        private boolean takeNamed(int kind) {
            if (plan.told[kind] >= MOST_TOLD[kind]) {
                return fail(FAULT_TOO_MUCH);
            }
            reader.advance();
            if (reader.kind != NAME) {
                return fail(FAULT_TOKEN);
            }
            if (plan.find(kind, reader.letters) != NONE) {
                return fail(FAULT_TOLD);
            }
            plan.addName(kind, reader.letters);
            reader.advance();
            return true;
        }

        /** NONE: it is a fault. */
        private int takeNumber(int least, int most) {
            if (reader.kind != NUMBER) {
                fail(FAULT_TOKEN);
                return NONE;
            }
            int number = reader.number;
            if (number < least || number > most) {
                fail(FAULT_TOO_MUCH);
                return NONE;
            }
            reader.advance();
            return number;
        }

        private boolean fail(int kind) {
            return failAt(kind, reader.place);
        }

        private boolean failAt(int kind, int where) {
            fault = kind;
            place = where;
            return false;
        }
    }
}
