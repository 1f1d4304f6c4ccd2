import java.util.NoSuchElementException;
import java.util.Random;

/** Runs of calls drawn by fixed seeds, on the class and on the plain model: the answers must be alike. */
public final class ModelTest {
    private static final String[] METHODS = {"named", "look", "cell", "law", "beats", "was", "fat", "off", "blow",
        "strike", "high", "creaks", "lies", "fewest", "forbidden", "cancel", "owes", "pump", "keeper", "groan", "unsay",
        "known", "began", "set", "sure", "fits", "gales", "tried", "undo", "keep", "back", "count", "fault", "feed",
        "groan", "cell", "cell", "look", "beats", "fat", "off", "undo", "strike", "blow", "was", "text"};

    private static int wrong = 0;

    public static void main(String[] args) {
        int runs = args.length > 0 ? Integer.parseInt(args[0]) : 250;
        int first = args.length > 1 ? Integer.parseInt(args[1]) : 1;
        for (int run = first; run < first + runs && wrong < 20; run++) {
            new ModelTest(run).run();
        }
        for (int seed = 1; seed <= 20 * runs && wrong < 20; seed++) {
            new ModelTest(seed).texts();
            new ModelTest(seed).formulas();
        }
        System.out.println(wrong == 0 ? "all answers are the model's" : wrong + " answers are not the model's");
        if (wrong != 0) {
            System.exit(1);
        }
    }

    private final Random random;
    private final int run;
    private final WalkingBridge bridge = new WalkingBridge();
    private final Model model = new Model();
    private final Texts texts;
    private final StringBuilder told = new StringBuilder();

    private ModelTest(int run) {
        this.run = run;
        random = new Random(run);
        texts = new Texts(random);
    }

    private int draw(int least, int most) {
        return least + random.nextInt(most - least + 1);
    }

    /** Mostly within, now and then just beyond or far off. */
    private int edgy(int least, int most) {
        switch (random.nextInt(40)) {
            case 0: return least - 1;
            case 1: return most + 1;
            case 2: return random.nextBoolean() ? Integer.MIN_VALUE : Integer.MAX_VALUE;
            case 3: return least;
            case 4: return most;
            default: return draw(least, most);
        }
    }

    private void check(String call, long got, long due) {
        if (got != due) {
            wrong++;
            System.out.println("run " + run + ": " + call + " answered " + got + ", the model " + due);
            System.out.println("  text: " + told);
        }
    }

    private void tell(String text) {
        told.setLength(0);
        told.append(text);
        for (int at = 0; at < text.length(); at += 20) {
            int[] five = Fed.five(text, at);
            check("feed", bridge.feed(five[0], five[1], five[2], five[3], five[4]),
                    model.feed(five[0], five[1], five[2], five[3], five[4]));
        }
        int n = text.length();
        check("text(" + n + ")", bridge.text(n), model.text(n));
        check("fault(0)", bridge.fault(0), model.fault(0));
        check("fault(1)", bridge.fault(1), model.fault(1));
    }

    private void texts() {
        tell(texts.broken());
        for (int what = 0; what <= 13; what++) {
            check("count(" + what + ")", bridge.count(what), model.count(what));
        }
    }

    private void formulas() {
        tell("bridge 4 4 4;heat 2;walker a 7 1 0 stay 1;law push " + texts.grammar(0, 3) + ";");
        for (int time = 0; time < 3; time++) {
            for (int c = 0; c < 4; c++) {
                int foot = random.nextInt(2);
                check("law 0 0 " + c + " " + foot, bridge.law(0, 0, c, foot), model.law(0, 0, c, foot));
            }
            two("beats", 1, 0);
        }
    }

    private void run() {
        tell(texts.sound());
        int calls = draw(40, 120);
        for (int i = 0; i < calls; i++) {
            one();
        }
    }

    private void one() {
        int cells = model.count(0);
        int c = edgy(0, cells - 1);
        int w = edgy(0, Math.max(0, model.count(1) - 1));
        int n64 = edgy(1, random.nextBoolean() ? 64 : 12);
        int n32 = edgy(1, random.nextInt(4) == 0 ? 32 : 6);
        int calm = edgy(1, 99);
        int force = edgy(1, 99);
        int what = edgy(0, 1);
        int number = random.nextInt(METHODS.length);
        switch (METHODS[number]) {
            case "named": two("named", edgy(0, 3), Model.letters(texts.name())); break;
            case "look": two("look", w, edgy(0, 4)); break;
            case "cell": two("cell", c, edgy(0, 6)); break;
            case "law": {
                int foot = edgy(0, 1);
                check("law " + what + " " + w + " " + c + " " + foot, bridge.law(what, w, c, foot),
                        model.law(what, w, c, foot));
                break;
            }
            case "beats": two("beats", edgy(0, random.nextInt(8) == 0 ? 200 : 9), 0); break;
            case "was": two("was", edgy(Math.max(0, model.count(6) - 65), model.count(6)), 0); break;
            case "fat": two("fat", c, calm); break;
            case "off": two("off", w, 0); break;
            case "blow": two("blow", random.nextInt(2), 0); break;
            case "strike": two("strike", c, edgy(-999, 999)); break;
            case "high": two("high", n64, 0); break;
            case "creaks": two("creaks", edgy(0, Math.max(0, model.count(3) - 1)), 0); break;
            case "lies": {
                int k = edgy(0, random.nextInt(6) == 0 ? 3 : 2);
                int which = edgy(0, 3);
                check("lies " + n32 + " " + k + " " + calm + " " + which, bridge.lies(n32, k, calm, which),
                        model.lies(n32, k, calm, which));
                break;
            }
            case "fewest": {
                int high = Math.max(1, model.high(Math.max(1, Math.min(32, n32))));
                int bound = random.nextInt(10) == 0 ? edgy(0, 100000) : edgy(0, Math.min(100000, high + 2));
                check("fewest " + n32 + " " + calm + " " + bound, bridge.fewest(n32, calm, bound),
                        model.fewest(n32, calm, bound));
                break;
            }
            case "forbidden": {
                int weight = edgy(1, 30);
                check("forbidden " + n64 + " " + weight + " " + what, bridge.forbidden(n64, weight, what),
                        model.forbidden(n64, weight, what));
                break;
            }
            case "cancel": {
                int other = edgy(0, Math.max(0, model.count(1) - 1));
                check("cancel " + w + " " + other + " " + n64, bridge.cancel(w, other, n64), model.cancel(w, other, n64));
                break;
            }
            case "owes": two("owes", w, n64); break;
            case "pump": {
                int n = edgy(1, 7);
                check("pump " + c + " " + force + " " + n + " " + what, bridge.pump(c, force, n, what),
                        model.pump(c, force, n, what));
                break;
            }
            case "keeper": {
                int n = edgy(1, 5);
                check("keeper " + c + " " + force + " " + n + " " + calm + " " + what,
                        bridge.keeper(c, force, n, calm, what), model.keeper(c, force, n, calm, what));
                break;
            }
            case "groan": groan(c); break;
            case "gales": {
                int seed = random.nextInt(10) == 0 ? -1 : random.nextInt() >>> 1;
                int bound = random.nextInt(10) == 0 ? edgy(0, 99999) : draw(0, 400);
                check("gales " + seed + " " + n32 + " " + bound, bridge.gales(seed, n32, bound),
                        model.gales(seed, n32, bound));
                break;
            }
            case "tried": {
                int kind = edgy(0, 11);
                int i = kind % 6 == 3 ? w : random.nextInt(20) == 0 ? 1 : 0;
                int n = edgy(0, random.nextBoolean() ? 64 : 9);
                check("tried " + kind + " " + i + " " + n, bridge.tried(kind, i, n), model.tried(kind, i, n));
                break;
            }
            case "feed": {
                int a = random.nextInt();
                check("feed", bridge.feed(a, 0, -1, 2, a), model.feed(a, 0, -1, 2, a));
                break;
            }
            case "text": {
                if (random.nextInt(4) == 0) {
                    two("text", 0, 0);
                    tell(random.nextInt(3) == 0 ? texts.broken() : texts.sound());
                } else {
                    two("text", random.nextBoolean() ? -1 : 701, 0);
                }
                break;
            }
            case "unsay": two("unsay", edgy(0, Math.max(0, model.count(7) - 1)), 0); break;
            case "known": two("known", edgy(-1, model.count(7)), 0); break;
            case "set": two("set", edgy(0, random.nextBoolean() ? 3 : 63), 0); break;
            case "sure": two("sure", w, 0); break;
            case "count": two("count", edgy(0, 13), 0); break;
            case "fault": two("fault", edgy(0, 1), 0); break;
            default: two(METHODS[number], 0, 0); break;
        }
    }

    private void groan(int c) {
        int time = edgy(0, random.nextBoolean() ? 63 : 8);
        int much = random.nextInt(8) == 0 ? edgy(0, 99999) : draw(0, 60);
        boolean is = random.nextBoolean();
        check("groan " + time + " " + c + " " + much + " " + is, bridge.groan(time, c, much, is),
                model.groan(time, c, much, is));
    }

    /** Calls of up to two numbers. */
    private void two(String method, int a, int b) {
        check(method + " " + a + " " + b, ofBridge(method, a, b), ofModel(method, a, b));
    }

    private static final long NO_INDEX = 1L << 40;
    private static final long NO_ELEMENT = 1L << 41;

    private long ofBridge(String method, int a, int b) {
        switch (method) {
            case "named": return bridge.named(a, b);
            case "look":
                try {
                    return bridge.look(a, b);
                } catch (ArrayIndexOutOfBoundsException e) {
                    return -NO_INDEX;
                } catch (IndexOutOfBoundsException e) {
                    return NO_INDEX;
                } catch (NoSuchElementException e) {
                    return NO_ELEMENT;
                }
            case "cell": return bridge.cell(a, b);
            case "beats": return bridge.beats(a);
            case "was": return bridge.was(a);
            case "fat": return bridge.fat(a, b);
            case "off": return bridge.off(a) ? 1 : 0;
            case "blow": return bridge.blow(a == 1) ? 1 : 0;
            case "strike": return bridge.strike(a, b);
            case "high": return bridge.high(a);
            case "creaks": return bridge.creaks(a);
            case "owes": return bridge.owes(a, b);
            case "unsay": return bridge.unsay(a);
            case "known": return bridge.known(a) ? 1 : 0;
            case "began": return bridge.began();
            case "set": return bridge.set(a);
            case "sure": return bridge.sure(a);
            case "fits": return bridge.fits();
            case "undo": return bridge.undo();
            case "keep": return bridge.keep();
            case "back": return bridge.back();
            case "count": return bridge.count(a);
            case "fault": return bridge.fault(a);
            case "text": return bridge.text(a);
            default: throw new IllegalStateException(method);
        }
    }

    private long ofModel(String method, int a, int b) {
        switch (method) {
            case "named": return model.named(a, b);
            case "look":
                try {
                    return model.look(a, b);
                } catch (IndexOutOfBoundsException e) {
                    return NO_INDEX;
                } catch (NoSuchElementException e) {
                    return NO_ELEMENT;
                }
            case "cell": return model.cell(a, b);
            case "beats": return model.beats(a);
            case "was": return model.was(a);
            case "fat": return model.fat(a, b);
            case "off": return model.off(a) ? 1 : 0;
            case "blow": return model.blow(a == 1) ? 1 : 0;
            case "strike": return model.strike(a, b);
            case "high": return model.high(a);
            case "creaks": return model.creaks(a);
            case "owes": return model.owes(a, b);
            case "unsay": return model.unsay(a);
            case "known": return model.known(a) ? 1 : 0;
            case "began": return model.began();
            case "set": return model.set(a);
            case "sure": return model.sure(a);
            case "fits": return model.fits();
            case "undo": return model.undo();
            case "keep": return model.keep();
            case "back": return model.back();
            case "count": return model.count(a);
            case "fault": return model.fault(a);
            case "text": return model.text(a);
            default: throw new IllegalStateException(method);
        }
    }
}
