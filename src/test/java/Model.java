import java.math.BigInteger;
import java.util.ArrayDeque;
import java.util.ArrayList;
import java.util.HashMap;
import java.util.HashSet;
import java.util.List;
import java.util.Map;
import java.util.NoSuchElementException;
import java.util.Set;

/** The document once more, written plainly and apart from the class, for ModelTest to compare with it. */
final class Model {
    static final class Fault extends RuntimeException {
        final int kind;
        final int place;

        Fault(int kind, int place) {
            this.kind = kind;
            this.place = place;
        }
    }

    static final class Failed extends RuntimeException {
    }

    static final class Node {
        final String sign;
        final Node left;
        final Node right;

        Node(String sign, Node left, Node right) {
            this.sign = sign;
            this.left = left;
            this.right = right;
        }

        private static BigInteger bit(boolean is) {
            return is ? BigInteger.ONE : BigInteger.ZERO;
        }

        BigInteger value(Map<String, Integer> names) {
            BigInteger value = raw(names);
            if (value.abs().compareTo(BigInteger.TEN.pow(12)) > 0) {
                throw new Failed();
            }
            return value;
        }

        private BigInteger raw(Map<String, Integer> names) {
            if (left == null) {
                return names.containsKey(sign) ? BigInteger.valueOf(names.get(sign)) : new BigInteger(sign);
            }
            BigInteger a = left.value(names);
            if (sign.equals("not")) {
                return bit(a.signum() == 0);
            }
            BigInteger b = right.value(names);
            int order = a.compareTo(b);
            switch (sign) {
                case "or": return bit(a.signum() != 0 || b.signum() != 0);
                case "and": return bit(a.signum() != 0 && b.signum() != 0);
                case "<": return bit(order < 0);
                case "<=": return bit(order <= 0);
                case "=": return bit(order == 0);
                case "<>": return bit(order != 0);
                case ">=": return bit(order >= 0);
                case ">": return bit(order > 0);
                case "+": return a.add(b);
                case "-": return a.subtract(b);
                case "*": return a.multiply(b);
                default:
                    if (b.signum() == 0) {
                        throw new Failed();
                    }
                    return a.divide(b);
            }
        }
    }

    record Walker(String name, int weight, int beat, int from, String way, int stay) {
    }

    record Fat(String name, int cell, int calm) {
    }

    record Sleeper(String name, int cell, int wake) {
    }

    record May(String name, Node law) {
    }

    static final class Text {
        int cells = 8;
        int stiffUp = 4;
        int stiffSide = 4;
        final Map<String, Integer> settings = new HashMap<>(Map.of("calm", 5, "heat", 0, "hold", 0, "gale", 0, "seed", 0));
        final List<Walker> walkers = new ArrayList<>();
        final List<Fat> fats = new ArrayList<>();
        final List<Sleeper> sleepers = new ArrayList<>();
        final List<May> mays = new ArrayList<>();
        final Map<String, Node> laws = new HashMap<>();
        int knots;
        int lines;
    }

    /** Reads by descent, a token at a time. */
    static final class Descent {
        static final Set<String> LANGUAGE = Set.of("bridge", "calm", "heat", "hold", "walker", "fat", "sleep", "gale",
                "seed", "may", "law", "right", "left", "stay", "push", "side", "or", "and", "not", "weight", "time",
                "place", "sway", "foot", "warm");
        static final Set<String> NAMES = Set.of("weight", "time", "place", "sway", "foot", "warm");
        static final Map<String, Integer> MOST = Map.of("calm", 99, "heat", 9, "hold", 9999, "gale", 99, "seed", 99999);
        final String source;
        final Text text = new Text();
        final Set<String> told = new HashSet<>();
        boolean cellTold;
        int open;
        int place;
        String token;

        Descent(String source) {
            this.source = source;
        }

        /** Sets token ("" at the end, "?" for none) and place. */
        void next() {
            int i = place + (token == null ? 0 : token.equals("?") ? 1 : token.length());
            while (i < source.length() && (source.charAt(i) == ' ' || source.charAt(i) == '\n')) {
                i++;
            }
            place = i;
            if (i == source.length()) {
                token = "";
                return;
            }
            String rest = source.substring(i);
            token = "?";
            for (String form : new String[] {"[a-z]+", "[0-9]+", "<=|<>|>=", "[-<=>+*/();]"}) {
                java.util.regex.Matcher found = java.util.regex.Pattern.compile(form).matcher(rest);
                if (found.lookingAt()) {
                    token = found.group();
                    break;
                }
            }
        }

        boolean isWord() {
            return token.matches("[a-z]+");
        }

        boolean isNumber() {
            return token.matches("[0-9]+");
        }

        void fail(int kind) {
            throw new Fault(kind, place);
        }

        void need(boolean is, int kind) {
            if (!is) {
                fail(kind);
            }
        }

        void expect(String word) {
            need(token.equals(word), 1);
            next();
        }

        int number(int least, int most) {
            need(isNumber(), 1);
            BigInteger value = new BigInteger(token);
            need(value.compareTo(BigInteger.valueOf(least)) >= 0 && value.compareTo(BigInteger.valueOf(most)) <= 0, 2);
            next();
            return value.intValue();
        }

        String name(List<String> others) {
            need(isWord() && token.length() <= 6 && !LANGUAGE.contains(token), 1);
            need(!others.contains(token), 3);
            String name = token;
            next();
            return name;
        }

        Text read() {
            next();
            while (!token.isEmpty()) {
                line();
                expect(";");
                text.lines++;
            }
            return text;
        }

        void line() {
            String word = token;
            if (MOST.containsKey(word)) {
                need(told.add(word), 3);
                next();
                text.settings.put(word, number(0, MOST.get(word)));
                return;
            }
            switch (word) {
                case "bridge":
                    need(told.add(word), 3);
                    need(!cellTold, 4);
                    next();
                    text.cells = number(2, 12);
                    text.stiffUp = number(0, 9);
                    text.stiffSide = number(0, 9);
                    break;
                case "walker":
                    walkerLine();
                    break;
                case "fat":
                    fatLine();
                    break;
                case "sleep":
                    need(text.sleepers.size() < 4, 2);
                    next();
                    String sleeper = name(text.sleepers.stream().map(Sleeper::name).toList());
                    cellTold = true;
                    int at = number(0, text.cells - 1);
                    text.sleepers.add(new Sleeper(sleeper, at, number(1, 9999)));
                    break;
                case "may":
                    need(text.mays.size() < 3, 2);
                    next();
                    String may = name(text.mays.stream().map(May::name).toList());
                    text.mays.add(new May(may, either()));
                    break;
                case "law":
                    next();
                    need(token.equals("push") || token.equals("side"), 1);
                    String kind = token;
                    need(told.add(kind), 3);
                    next();
                    text.laws.put(kind, either());
                    break;
                default:
                    fail(1);
            }
        }

        void walkerLine() {
            need(text.walkers.size() < 6, 2);
            next();
            String name = name(text.walkers.stream().map(Walker::name).toList());
            int weight = number(1, 30);
            int beat = number(1, 9);
            int from = number(0, 60);
            String way = token;
            need(Set.of("right", "left", "stay").contains(way), 1);
            next();
            int stay = 0;
            if (way.equals("stay")) {
                cellTold = true;
                stay = number(0, text.cells - 1);
            }
            text.walkers.add(new Walker(name, weight, beat, from, way, stay));
        }

        void fatLine() {
            need(text.fats.size() < 4, 2);
            next();
            String name = name(text.fats.stream().map(Fat::name).toList());
            cellTold = true;
            int where = place;
            int cell = number(0, text.cells - 1);
            if (text.fats.stream().anyMatch(f -> f.cell() == cell)) {
                throw new Fault(5, where);
            }
            text.fats.add(new Fat(name, cell, number(1, 99)));
        }

        void knot() {
            need(text.knots < 64, 2);
            text.knots++;
        }

        Node both(String sign, Node left, Node right) {
            return new Node(sign, left, right);
        }

        Node either() {
            Node node = all();
            while (token.equals("or")) {
                knot();
                next();
                node = both("or", node, all());
            }
            return node;
        }

        Node all() {
            Node node = not();
            while (token.equals("and")) {
                knot();
                next();
                node = both("and", node, not());
            }
            return node;
        }

        Node not() {
            if (!token.equals("not")) {
                return compared();
            }
            knot();
            next();
            return both("not", not(), null);
        }

        Node compared() {
            Node node = sum();
            if (Set.of("<", "<=", "=", "<>", ">=", ">").contains(token)) {
                knot();
                String sign = token;
                next();
                node = both(sign, node, sum());
            }
            return node;
        }

        Node sum() {
            Node node = product();
            while (token.equals("+") || token.equals("-")) {
                knot();
                String sign = token;
                next();
                node = both(sign, node, product());
            }
            return node;
        }

        Node product() {
            Node node = part();
            while (token.equals("*") || token.equals("/")) {
                knot();
                String sign = token;
                next();
                node = both(sign, node, part());
            }
            return node;
        }

        Node part() {
            if (token.equals("(")) {
                need(open < 8, 2);
                open++;
                next();
                Node inner = either();
                need(token.equals(")"), 1);
                open--;
                next();
                return inner;
            }
            need(isNumber() || NAMES.contains(token), 1);
            need(!isNumber() || new BigInteger(token).compareTo(BigInteger.valueOf(9999)) <= 0, 2);
            knot();
            Node leaf = both(token, null, null);
            next();
            return leaf;
        }
    }

    /** A walker's way so far. */
    static final class Going {
        int cell = -1;
        int steps;
        int stage;

        Going twin() {
            Going twin = new Going();
            twin.cell = cell;
            twin.steps = steps;
            twin.stage = stage;
            return twin;
        }
    }

    /** The bridge at one time; times go by on a twin where they are only asked for. */
    static final class World {
        Text text;
        List<Walker> walkers;
        Node push;
        Node side;
        int heat;
        int[] up;
        int[] upSpeed;
        int[] aside;
        int[] asideSpeed;
        Set<Integer> lost = new HashSet<>();
        List<Going> goings = new ArrayList<>();
        List<int[]> fats = new ArrayList<>();
        int time;
        BigInteger chance;
        boolean blows;
        Map<Integer, Integer> heights = new HashMap<>();
        int boysCell;
        int boysForce;

        World(Text text) {
            this.text = text;
            walkers = text.walkers;
            push = text.laws.get("push");
            side = text.laws.get("side");
            heat = text.settings.get("heat");
            chance = BigInteger.valueOf(text.settings.get("seed"));
            for (Fat fat : text.fats) {
                fats.add(new int[] {fat.cell(), fat.calm()});
            }
            toRest();
        }

        void toRest() {
            up = new int[text.cells];
            upSpeed = new int[text.cells];
            aside = new int[text.cells];
            asideSpeed = new int[text.cells];
            lost.clear();
            goings.clear();
            for (int i = 0; i < walkers.size(); i++) {
                goings.add(new Going());
            }
            time = 0;
        }

        World twin() {
            World twin = new World(text);
            twin.walkers = walkers;
            twin.push = push;
            twin.side = side;
            twin.heat = heat;
            twin.up = up.clone();
            twin.upSpeed = upSpeed.clone();
            twin.aside = aside.clone();
            twin.asideSpeed = asideSpeed.clone();
            twin.lost = new HashSet<>(lost);
            twin.goings = new ArrayList<>();
            for (Going going : goings) {
                twin.goings.add(going.twin());
            }
            twin.fats = new ArrayList<>(fats);
            twin.time = time;
            twin.chance = chance;
            twin.blows = blows;
            twin.heights = new HashMap<>(heights);
            return twin;
        }

        World calmTwin() {
            World twin = twin();
            twin.blows = false;
            return twin;
        }

        World restTwin() {
            World twin = calmTwin();
            twin.toRest();
            return twin;
        }

        int calm(int cell) {
            int calm = text.settings.get("calm");
            for (int[] fat : fats) {
                calm += fat[0] == cell ? fat[1] : 0;
            }
            return Math.min(calm, 100);
        }

        Map<String, Integer> names(int weight, int cell, int foot) {
            return Map.of("weight", weight, "time", time, "place", cell, "sway", up[cell], "foot", foot, "warm", heat);
        }

        int force(Node law, Map<String, Integer> names, int without) {
            if (law == null) {
                return without;
            }
            try {
                long value = law.value(names).longValueExact();
                return (int) (value > 99 ? 99 : value < -99 ? -99 : value);
            } catch (Failed e) {
                return without;
            }
        }

        void beat() {
            int[] upPush = new int[text.cells];
            int[] asidePush = new int[text.cells];
            for (int w = 0; w < walkers.size(); w++) {
                Walker walker = walkers.get(w);
                Going going = goings.get(w);
                if (going.stage == 2 || time < walker.from() || (time - walker.from()) % walker.beat() != 0) {
                    continue;
                }
                going.steps++;
                if (going.steps > 1) {
                    going.cell += walker.way().equals("right") ? 1 : walker.way().equals("left") ? -1 : 0;
                } else {
                    going.stage = 1;
                    going.cell = walker.way().equals("right") ? 0
                            : walker.way().equals("left") ? text.cells - 1 : walker.stay();
                }
                if (going.cell < 0 || going.cell >= text.cells || lost.contains(going.cell)) {
                    going.stage = 2;
                    continue;
                }
                int foot = going.steps % 2;
                Map<String, Integer> names = names(walker.weight(), going.cell, foot);
                upPush[going.cell] -= force(push, names, walker.weight());
                asidePush[going.cell] += force(side, names, 0) * (foot == 1 ? 1 : -1);
            }
            upPush[boysCell] -= boysForce;
            int gale = text.settings.get("gale");
            for (int c = 0; c < text.cells && blows && gale > 0; c++) {
                chance = chance.multiply(BigInteger.valueOf(1103515245)).add(BigInteger.valueOf(12345))
                        .mod(BigInteger.TWO.pow(31));
                asidePush[c] += chance.shiftRight(16).intValue() % (2 * gale + 1) - gale;
            }
            up = moved(up, upSpeed, upPush, Math.max(0, text.stiffUp - heat));
            aside = moved(aside, asideSpeed, asidePush, text.stiffSide);
            int hold = text.settings.get("hold");
            for (int c = 0; c < text.cells; c++) {
                if (hold > 0 && Math.abs(up[c]) > hold) {
                    lost.add(c);
                }
            }
            heights.put(time, greatest(up));
            heights.remove(time - 60);
            time++;
        }

        int[] moved(int[] out, int[] speed, int[] push, int stiff) {
            int[] then = new int[out.length];
            for (int c = 0; c < out.length; c++) {
                int before = c == 0 ? 0 : out[c - 1];
                int behind = c == out.length - 1 ? 0 : out[c + 1];
                long fast = speed[c];
                fast += (long) stiff * (before + behind - 2L * out[c]) / 16;
                fast += push[c];
                fast -= fast * calm(c) / 100;
                speed[c] = (int) Math.max(-100000, Math.min(100000, fast));
                then[c] = Math.max(-100000, Math.min(100000, out[c] + speed[c]));
            }
            return then;
        }

        static int greatest(int[] out) {
            int greatest = 0;
            for (int o : out) {
                greatest = Math.max(greatest, o < 0 ? -o : o);
            }
            return greatest;
        }

        /** Of this very world: it goes on. */
        int high(int n) {
            int high = 0;
            for (int i = 0; i < n; i++) {
                beat();
                high = Math.max(high, greatest(up));
            }
            return high;
        }

        World only(int set) {
            for (int w = 0; w < goings.size(); w++) {
                if ((set & 1 << w) == 0) {
                    goings.get(w).stage = 2;
                }
            }
            return this;
        }
    }

    record Groan(int time, int cell, int much, boolean is, int strikes) {
    }

    private final StringBuilder tape = new StringBuilder();
    private Fault latest;
    private World world = new World(new Text());
    private World image;
    private final List<Groan> groans = new ArrayList<>();
    private int known = -1;
    private final ArrayDeque<World> before = new ArrayDeque<>();

    int feed(int a, int b, int c, int d, int e) {
        if (tape.length() > 680) {
            return -1;
        }
        for (int number : new int[] {a, b, c, d, e}) {
            for (byte one : java.nio.ByteBuffer.allocate(4).putInt(number).array()) {
                tape.append((char) (one & 255));
            }
        }
        return tape.length();
    }

    int text(int n) {
        if (n < 0 || n > tape.length()) {
            return -2;
        }
        String source = tape.substring(0, n);
        tape.setLength(0);
        latest = null;
        try {
            Text text = new Descent(source).read();
            world = new World(text);
            image = null;
            groans.clear();
            known = -1;
            before.clear();
            return text.lines;
        } catch (Fault fault) {
            latest = fault;
            return -1;
        }
    }

    int fault(int what) {
        if (what == 0) {
            return latest == null ? 0 : latest.kind;
        }
        return what != 1 || latest == null ? -1 : latest.place;
    }

    static int letters(String name) {
        int letters = 0;
        for (int i = 0; i < 6; i++) {
            letters = letters * 32 + (i < name.length() ? name.charAt(i) - 'a' + 1 : 0);
        }
        return letters;
    }

    int named(int what, int letters) {
        List<String> names = List.of();
        switch (what) {
            case 0: names = text().walkers.stream().map(Walker::name).toList(); break;
            case 1: names = text().fats.stream().map(Fat::name).toList(); break;
            case 2: names = text().sleepers.stream().map(Sleeper::name).toList(); break;
            case 3: names = text().mays.stream().map(May::name).toList(); break;
            default: break;
        }
        return names.stream().map(Model::letters).toList().indexOf(letters);
    }

    private Text text() {
        return world.text;
    }

    private boolean walker(int w) {
        return w >= 0 && w < text().walkers.size();
    }

    private boolean isCell(int c) {
        return c >= 0 && c < text().cells;
    }

    private static boolean in(int number, int least, int most) {
        return number >= least && number <= most;
    }

    int look(int w, int what) {
        if (!walker(w)) {
            throw new IndexOutOfBoundsException();
        }
        Going going = world.goings.get(w);
        switch (what) {
            case 0: return going.stage == 1 ? going.cell : -1;
            case 1: return text().walkers.get(w).weight();
            case 2: return text().walkers.get(w).beat();
            case 3: return going.steps;
            case 4: return going.stage;
            default: throw new NoSuchElementException();
        }
    }

    int cell(int c, int what) {
        if (!isCell(c) || !in(what, 0, 6)) {
            return Integer.MIN_VALUE;
        }
        int there = (int) world.goings.stream().filter(g -> g.stage == 1 && g.cell == c).count();
        return new int[] {world.up[c], world.upSpeed[c], world.aside[c], world.asideSpeed[c], world.calm(c),
            world.lost.contains(c) ? 1 : 0, there}[what];
    }

    long law(int what, int w, int c, int foot) {
        if (!in(what, 0, 1) || !walker(w) || !isCell(c) || !in(foot, 0, 1)) {
            return Long.MIN_VALUE;
        }
        Node law = text().laws.get(what == 0 ? "push" : "side");
        if (law == null) {
            return Long.MIN_VALUE;
        }
        try {
            return law.value(world.names(text().walkers.get(w).weight(), c, foot)).longValueExact();
        } catch (Failed e) {
            return Long.MIN_VALUE;
        }
    }

    int beats(int n) {
        if (!in(n, 0, 200) || world.time + n > 9999) {
            return -1;
        }
        for (int i = 0; i < n; i++) {
            world.beat();
            before.clear();
        }
        return world.time;
    }

    int was(int time) {
        return world.heights.getOrDefault(time, -1);
    }

    private void remember() {
        before.push(world.twin());
        if (before.size() > 20) {
            before.removeLast();
        }
    }

    int fat(int c, int calm) {
        if (!isCell(c) || !in(calm, 1, 99) || world.fats.size() == 8) {
            return -1;
        }
        remember();
        world.fats.add(new int[] {c, calm});
        return world.fats.size();
    }

    boolean off(int w) {
        if (!walker(w) || world.goings.get(w).stage == 2) {
            return false;
        }
        remember();
        world.goings.get(w).stage = 2;
        return true;
    }

    boolean blow(boolean is) {
        if (world.blows == is) {
            return false;
        }
        remember();
        world.blows = is;
        return true;
    }

    int strike(int c, int n) {
        if (!isCell(c) || !in(n, -999, 999)) {
            return Integer.MIN_VALUE;
        }
        int then = Math.max(-100000, Math.min(100000, world.upSpeed[c] + n));
        if (then != world.upSpeed[c]) {
            remember();
            world.upSpeed[c] = then;
        }
        return then;
    }

    int high(int n) {
        return in(n, 1, 64) ? world.calmTwin().high(n) : -1;
    }

    int creaks(int s) {
        if (s < 0 || s >= text().sleepers.size()) {
            return -1;
        }
        Sleeper sleeper = text().sleepers.get(s);
        World then = world.calmTwin();
        for (int i = 1; i <= 64; i++) {
            then.beat();
            if (Math.abs(then.up[sleeper.cell()]) >= sleeper.wake()) {
                return i;
            }
        }
        return -2;
    }

    private void spots(int k, List<Integer> chosen, List<List<Integer>> all) {
        if (k == 0) {
            all.add(List.copyOf(chosen));
            return;
        }
        for (int c = chosen.isEmpty() ? 0 : chosen.get(chosen.size() - 1); c < text().cells; c++) {
            chosen.add(c);
            spots(k - 1, chosen, all);
            chosen.remove(chosen.size() - 1);
        }
    }

    /** HIGH, then the cells. */
    private List<Integer> lie(int n, int k, int calm) {
        List<List<Integer>> all = new ArrayList<>();
        spots(k, new ArrayList<>(), all);
        List<Integer> best = null;
        for (List<Integer> cells : all) {
            World then = world.calmTwin();
            for (int c : cells) {
                then.fats.add(new int[] {c, calm});
            }
            int high = then.high(n);
            if (best == null || high < best.get(0)) {
                best = new ArrayList<>(cells);
                best.add(0, high);
            }
        }
        return best;
    }

    int lies(int n, int k, int calm, int what) {
        if (!in(n, 1, 32) || !in(k, 0, 3) || !in(calm, 1, 99) || !in(what, 0, 3) || world.fats.size() + k > 8) {
            return -1;
        }
        return what > k ? -2 : lie(n, k, calm).get(what);
    }

    int fewest(int n, int calm, int bound) {
        if (!in(n, 1, 32) || !in(calm, 1, 99) || !in(bound, 0, 100000)) {
            return -1;
        }
        for (int k = 0; k <= 3; k++) {
            if (world.fats.size() + k <= 8 && lie(n, k, calm).get(0) <= bound) {
                return k;
            }
        }
        return -2;
    }

    int forbidden(int n, int weight, int what) {
        if (!in(n, 1, 64) || !in(weight, 1, 30) || !in(what, 0, 1)) {
            return -1;
        }
        int worst = 0;
        int most = -1;
        for (int beat = 1; beat <= 9; beat++) {
            World then = world.calmTwin();
            then.walkers = List.of(new Walker("x", weight, beat, 0, "right", 0));
            then.toRest();
            int high = then.high(n);
            if (high > most) {
                most = high;
                worst = beat;
            }
        }
        return what == 0 ? worst : most;
    }

    int cancel(int one, int other, int n) {
        if (!walker(one) || !walker(other) || one == other || !in(n, 1, 64)) {
            return Integer.MIN_VALUE;
        }
        int first = world.restTwin().only(1 << one).high(n);
        int second = world.restTwin().only(1 << other).high(n);
        return first + second - world.restTwin().only(1 << one | 1 << other).high(n);
    }

    int owes(int w, int n) {
        if (!walker(w) || !in(n, 1, 64)) {
            return -1;
        }
        return Math.max(0, world.calmTwin().high(n) - world.calmTwin().only(63 ^ 1 << w).high(n));
    }

    /** The greatest, then the times. */
    private int[] pumped(World start, int c, int force, int n) {
        int[] best = {-1, 0};
        for (int times = 0; times < 1 << n; times++) {
            World then = start.calmTwin();
            for (int i = 0; i < n; i++) {
                then.boysCell = c;
                then.boysForce = (times & 1 << i) != 0 ? force : 0;
                then.beat();
            }
            int reached = World.greatest(then.up);
            if (reached > best[0]) {
                best = new int[] {reached, times};
            }
        }
        return best;
    }

    int pump(int c, int force, int n, int what) {
        if (!isCell(c) || !in(force, 1, 99) || !in(n, 1, 7) || !in(what, 0, 1)) {
            return -1;
        }
        return pumped(world, c, force, n)[what];
    }

    int keeper(int c, int force, int n, int calm, int what) {
        if (!isCell(c) || !in(force, 1, 99) || !in(n, 1, 5) || !in(calm, 1, 99) || !in(what, 0, 1)
                || world.fats.size() == 8) {
            return -1;
        }
        int[] best = null;
        for (int spot = 0; spot < text().cells; spot++) {
            World then = world.twin();
            then.fats.add(new int[] {spot, calm});
            int reached = pumped(then, c, force, n)[0];
            if (best == null || reached < best[1]) {
                best = new int[] {spot, reached};
            }
        }
        return best[what];
    }

    int groan(int time, int c, int much, boolean is) {
        if (!in(time, 0, 63) || !isCell(c) || !in(much, 0, 99999) || groans.size() == 24) {
            return -1;
        }
        groans.add(new Groan(time, c, much, is, -1));
        return groans.size() - 1;
    }

    int unsay(int groan) {
        if (groan < 0 || groan >= groans.size() || groans.size() == 24) {
            return -1;
        }
        groans.add(new Groan(0, 0, 0, false, groan));
        return groans.size() - 1;
    }

    boolean known(int n) {
        if (n < -1 || n > groans.size()) {
            return false;
        }
        known = n;
        return true;
    }

    private boolean struck(int groan, int n) {
        for (int i = groan + 1; i < n; i++) {
            if (groans.get(i).strikes() == groan && !struck(i, n)) {
                return true;
            }
        }
        return false;
    }

    private boolean allSo(World start) {
        int n = known < 0 ? groans.size() : known;
        List<int[]> ups = new ArrayList<>();
        World then = start.calmTwin();
        for (int i = 0; i < 64; i++) {
            then.beat();
            ups.add(then.up);
        }
        for (int i = 0; i < n; i++) {
            Groan groan = groans.get(i);
            if (groan.strikes() < 0 && !struck(i, n)
                    && groan.is() != Math.abs(ups.get(groan.time())[groan.cell()]) >= groan.much()) {
                return false;
            }
        }
        return true;
    }

    private List<Integer> beginners() {
        List<Integer> sets = new ArrayList<>();
        for (int set = 0; set < 1 << text().walkers.size(); set++) {
            if (allSo(world.restTwin().only(set))) {
                sets.add(set);
            }
        }
        return sets;
    }

    int began() {
        return beginners().size();
    }

    int set(int k) {
        List<Integer> sets = beginners();
        return k < 0 ? -1 : k >= sets.size() ? -2 : sets.get(k);
    }

    int sure(int w) {
        if (!walker(w)) {
            return -1;
        }
        List<Integer> sets = beginners();
        long in = sets.stream().filter(s -> (s & 1 << w) != 0).count();
        return sets.isEmpty() ? -2 : in == 0 ? 0 : in == sets.size() ? 1 : 2;
    }

    int fits() {
        int fits = 0;
        for (int i = 0; i <= text().mays.size(); i++) {
            World then = world.restTwin();
            if (i < text().mays.size()) {
                then.push = text().mays.get(i).law();
            }
            fits += allSo(then) ? 1 << i : 0;
        }
        return fits;
    }

    int gales(int seed, int n, int bound) {
        if (seed < 0 || !in(n, 1, 32) || !in(bound, 0, 99999)) {
            return -1;
        }
        int held = 0;
        BigInteger chance = BigInteger.valueOf(seed);
        for (int gale = 0; gale < 10; gale++) {
            World then = world.twin();
            then.blows = true;
            then.chance = chance;
            int most = 0;
            for (int i = 0; i < n; i++) {
                then.beat();
                most = Math.max(most, World.greatest(then.aside));
            }
            held += most <= bound ? 1 : 0;
            chance = then.chance;
        }
        return held;
    }

    int tried(int what, int i, int n) {
        if (!in(what, 0, 11) || !in(n, 0, 64) || (what % 6 == 3 ? !walker(i) : i != 0)) {
            return -1;
        }
        World then = world.calmTwin();
        switch (what % 6) {
            case 0: then.heat = 0; break;
            case 1: then.fats.clear(); break;
            case 2: then.only(0); break;
            case 3: then.only(63 ^ 1 << i); break;
            case 4: then.blows = true; break;
            default: then.side = null; break;
        }
        then.high(n);
        return World.greatest(what < 6 ? then.up : then.aside);
    }

    int undo() {
        if (before.isEmpty()) {
            return -1;
        }
        world = before.pop();
        return before.size();
    }

    int keep() {
        image = world.twin();
        return world.time;
    }

    int back() {
        if (image == null) {
            return -1;
        }
        world = image.twin();
        before.clear();
        return world.time;
    }

    int count(int what) {
        if (!in(what, 0, 13)) {
            return -1;
        }
        return new int[] {text().cells, text().walkers.size(), world.fats.size(), text().sleepers.size(),
            text().mays.size(), text().knots, world.time, groans.size(), known < 0 ? groans.size() : known,
            before.size(), world.lost.size(), world.blows ? 1 : 0, World.greatest(world.up),
            World.greatest(world.aside)}[what];
    }
}
