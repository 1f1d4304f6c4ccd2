import java.util.ArrayList;
import java.util.Collections;
import java.util.List;
import java.util.Random;

/** Texts drawn by a seed: sound ones, and ones with something broken in them. */
final class Texts {
    private static final String[] NAMES = {"weight", "time", "place", "sway", "foot", "warm"};
    private static final String[] SIGNS = {"<", "<=", "=", "<>", ">=", ">"};
    private static final String[] CUTTINGS = {"bridge", "calm", "heat", "hold", "walker", "fat", "sleep", "gale", "seed",
        "may", "law", "right", "left", "stay", "push", "side", "or", "and", "not", "weight", "warm", "<", "<=", "=", "<>",
        ">=", ">", "+", "-", "*", "/", "(", ")", ";", "0", "1", "10", "99", "100", "9999", "10000", "99999999999", "a",
        "abcdefg", "?", "A", "\u00e9", "\n", " ", "((((((((("};

    private final Random random;

    Texts(Random random) {
        this.random = random;
    }

    private int draw(int least, int most) {
        return least + random.nextInt(most - least + 1);
    }

    private boolean once(int of) {
        return random.nextInt(of) == 0;
    }

    String name() {
        StringBuilder name = new StringBuilder();
        int length = once(6) ? 6 : draw(1, 2);
        for (int i = 0; i < length; i++) {
            name.append((char) draw('a', once(8) ? 'z' : 'd'));
        }
        return name.toString();
    }

    private String names(List<String> others) {
        String name = name();
        while (others.contains(name)) {
            name = name();
        }
        others.add(name);
        return name;
    }

    String formula(int depth) {
        if (depth == 0 || once(4)) {
            return once(2) ? NAMES[random.nextInt(6)] : String.valueOf(once(6) ? draw(0, 9999) : draw(0, 30));
        }
        String left = formula(depth - 1);
        String right = formula(depth - 1);
        switch (random.nextInt(9)) {
            case 0: return left + " or " + right;
            case 1: return left + " and " + right;
            case 2: return "(not " + left + ")";
            case 3: return "(" + left + SIGNS[random.nextInt(6)] + right + ")";
            case 4: return left + "+" + right;
            case 5: return left + "-" + right;
            case 6: return left + "*" + right;
            case 7: return left + "/" + right;
            default: return "(" + left + "-" + right + ")";
        }
    }

    /** A formula by the grammar, level 0 (E) to 5 (P), '(' only where it is drawn. */
    String grammar(int level, int depth) {
        StringBuilder text = new StringBuilder();
        switch (level) {
            case 0:
            case 1:
            case 4:
            case 5:
                text.append(grammar(level + 1, depth));
                for (int i = once(3) ? draw(1, 2) : 0; i > 0; i--) {
                    String[] signs = level == 0 ? new String[] {" or "} : level == 1 ? new String[] {" and "}
                            : level == 4 ? new String[] {"+", "-"} : new String[] {"*", "/"};
                    text.append(signs[random.nextInt(signs.length)]).append(grammar(level + 1, depth));
                }
                return text.toString();
            case 2:
                return once(5) ? "not " + grammar(2, depth) : grammar(3, depth);
            case 3:
                text.append(grammar(4, depth));
                return once(3) ? text.append(SIGNS[random.nextInt(6)]).append(grammar(4, depth)).toString() : text.toString();
            default:
                if (depth > 0 && once(4)) {
                    return "(" + grammar(0, depth - 1) + ")";
                }
                return once(3) ? NAMES[random.nextInt(6)] : String.valueOf(once(8) ? draw(0, 9999) : draw(0, 4));
        }
    }

    /** A formula that reads well most of the time; 1 stands in for what the grammar would not take. */
    private String law() {
        for (int tries = 0; tries < 50; tries++) {
            String law = formula(draw(0, 3));
            if (sounds(law)) {
                return law;
            }
        }
        return "1";
    }

    private static boolean sounds(String law) {
        try {
            return new Model.Descent("law push " + law + ";").read().knots <= 12;
        } catch (Model.Fault fault) {
            return false;
        }
    }

    String sound() {
        List<String> lines = new ArrayList<>();
        int cells = 8;
        String bridge = "";
        if (!once(5)) {
            cells = draw(2, once(3) ? 12 : 6);
            bridge = "bridge " + cells + " " + draw(0, 9) + " " + draw(0, 9) + ";";
        }
        if (once(2)) {
            lines.add("calm " + (once(3) ? draw(0, 99) : draw(0, 8)) + ";");
        }
        if (once(2)) {
            lines.add("heat " + draw(0, 9) + ";");
        }
        if (once(2)) {
            lines.add("hold " + (once(3) ? draw(0, 9999) : draw(5, 90)) + ";");
        }
        if (!once(3)) {
            lines.add("gale " + draw(0, 99) + ";");
        }
        if (once(2)) {
            lines.add("seed " + draw(0, 99999) + ";");
        }
        people(lines, cells);
        if (!once(3)) {
            lines.add("law push " + law() + ";");
        }
        if (!once(3)) {
            lines.add("law side " + law() + ";");
        }
        Collections.shuffle(lines, random);
        String text = bridge + String.join(once(2) ? "" : " ", lines);
        return text.length() <= 680 ? text : bridge;
    }

    private void people(List<String> lines, int cells) {
        List<String> walkers = new ArrayList<>();
        for (int i = draw(once(8) ? 0 : 1, once(8) ? 6 : 3); i > 0; i--) {
            String way = new String[] {"right", "left", "stay " + draw(0, cells - 1)}[random.nextInt(3)];
            lines.add("walker " + names(walkers) + " " + draw(1, 30) + " " + draw(1, once(2) ? 9 : 2) + " "
                    + draw(0, once(5) ? 60 : 5) + " " + way + ";");
        }
        List<Integer> spots = new ArrayList<>();
        for (int c = 0; c < cells; c++) {
            spots.add(c);
        }
        Collections.shuffle(spots, random);
        List<String> fats = new ArrayList<>();
        for (int i = Math.min(cells, draw(0, once(3) ? 4 : 1)); i > 0; i--) {
            lines.add("fat " + names(fats) + " " + spots.get(i - 1) + " " + draw(1, 99) + ";");
        }
        List<String> sleepers = new ArrayList<>();
        for (int i = draw(0, 4); i > 0; i--) {
            lines.add("sleep " + names(sleepers) + " " + draw(0, cells - 1) + " "
                    + (once(5) ? draw(1, 9999) : draw(1, 60)) + ";");
        }
        List<String> mays = new ArrayList<>();
        for (int i = draw(0, 3); i > 0; i--) {
            lines.add("may " + names(mays) + " " + law() + ";");
        }
    }

    /** One number becomes another one, one more or less, or one at an edge. */
    private void shift(StringBuilder text) {
        java.util.regex.Matcher found = java.util.regex.Pattern.compile("[0-9]+").matcher(text.toString());
        List<int[]> numbers = new ArrayList<>();
        while (found.find()) {
            numbers.add(new int[] {found.start(), found.end()});
        }
        if (!numbers.isEmpty()) {
            int[] one = numbers.get(random.nextInt(numbers.size()));
            String[] edges = {"0", "1", "2", "8", "9", "10", "12", "13", "30", "31", "60", "61", "99", "100", "9999", "10000",
                "99999", "100000", "007", "4294967297"};
            text.replace(one[0], one[1], edges[random.nextInt(edges.length)]);
        }
    }

    /** A sound text, or one line after another without regard, then cut, swapped or filled up here and there. */
    String broken() {
        StringBuilder text = new StringBuilder(sound());
        if (once(3)) {
            text.append("law side ");
            for (int i = draw(0, 70); i > 0; i--) {
                text.append(once(12) ? "(" : "").append(once(6) ? "not " : "").append(formula(0))
                        .append(new String[] {"+", "-", "*", "<", " and ", " or ", "=", ")", "/"}[random.nextInt(9)]);
            }
            text.append("1;");
        }
        if (once(3)) {
            text.append(sound());
        }
        if (once(3)) {
            shift(text);
        }
        for (int i = draw(0, once(2) ? 3 : 1); i > 0 && text.length() > 0; i--) {
            int at = random.nextInt(text.length());
            String piece = CUTTINGS[random.nextInt(CUTTINGS.length)];
            switch (random.nextInt(4)) {
                case 0: text.insert(at, piece); break;
                case 1: text.insert(at, " " + piece + " "); break;
                case 2: text.replace(at, Math.min(text.length(), at + draw(1, 3)), piece); break;
                default: text.delete(at, Math.min(text.length(), at + draw(1, 6))); break;
            }
        }
        if (once(6)) {
            text.setLength(random.nextInt(text.length() + 1));
        }
        if (text.length() > 700) {
            text.setLength(700);
        }
        return text.toString();
    }
}
