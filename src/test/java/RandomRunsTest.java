import java.util.Arrays;
import java.util.List;
import java.util.Random;

/**
 * Promises 1 to 26: runs of drawn calls, the same each time, whose every answer and exception is
 * compared with the Model's; and the state that can be asked for, once a run is over.
 */
public final class RandomRunsTest {
    private static final int RUNS = 700;
    private static final int CALLS = 512;
    private static final String[] NAMES = {
        "kind", "span", "seller", "feed", "contract", "force", "usual", "load", "told", "sample",
        "tons", "layers", "layer", "move", "mix", "asked", "best", "charge", "melt", "portions",
        "portion", "prove", "money", "day", "count",
    };
    private static final int[] COUNTS = {0, 4, 0, 5, 3, 2, 4, 4, 2, 4, 1, 1, 3, 3, 1, 3, 1, 2, 1, 1, 3, 4, 1, 1, 1};
    /** How often each call is drawn, of the calls that are not a feed and its contract. */
    private static final int[] WEIGHTS = {2, 10, 2, 1, 1, 3, 8, 40, 8, 20, 2, 2, 8, 22, 4, 12, 9, 12, 9, 2, 8, 20, 3, 2, 5};
    private static final String[] PIECES = {
        "grade", "cu", "ni", "cr", "sn", "ph", "<", ">", ",", "pay", ";", "else", " ", "  ", "7", "123456", "x", "=",
    };

    private final Random random;
    private final ScrapYard yard = new ScrapYard();
    private final Model model = new Model();
    private int calls = 0;
    /** Some runs keep to narrow spans and few wrong numbers, so that deep states are reached. */
    private final boolean tame;
    private final int widest;

    private RandomRunsTest(int seed) {
        random = new Random(seed);
        tame = seed % 4 != 0;
        widest = seed % 3 == 0 ? 10000 : seed % 3 == 1 ? 300 : 40;
    }

    public static void main(String[] args) {
        for (int seed = 0; seed < RUNS; seed++) {
            RandomRunsTest run = new RandomRunsTest(seed);
            if (!run.agrees()) {
                Check.tell("in the run of seed " + seed);
            }
        }
        Check.end();
    }

    private boolean agrees() {
        for (int i = 0; i < 3; i++) {
            if (!same(0) || !same(2) || tame && !sameOpening(i)) {
                return false;
            }
        }
        while (calls < CALLS) {
            boolean fine = random.nextInt(25) == 0 ? sameContract() : sameDrawn();
            if (!fine) {
                return false;
            }
        }
        return sameState();
    }

    /** Gives a new seller a contract that takes all, and a new kind spans of its own. */
    private boolean sameOpening(int number) {
        boolean fine = sameFed("else pay " + random.nextInt(4) + ";") && same(4, 11, number, 0);
        for (int metal = 0; metal < 5; metal++) {
            int low = random.nextInt(widest);
            fine &= same(1, number, metal, low, low + random.nextInt(widest - low + 1));
        }
        return fine;
    }

    private boolean sameDrawn() {
        int sum = Arrays.stream(WEIGHTS).sum();
        int draw = random.nextInt(sum);
        int which = 0;
        while (draw >= WEIGHTS[which]) {
            draw -= WEIGHTS[which];
            which++;
        }
        return same(which, argumentsOf(which));
    }

    private boolean sameContract() {
        String text = drawText();
        if (!sameFed(text)) {
            return false;
        }
        int n = Math.min(text.length(), model.tape.length());
        return same(4, n, drawOf(model.sellers.size()), random.nextInt(3) == 0 ? 0 : random.nextInt(40));
    }

    private boolean sameFed(String text) {
        for (int at = 0; at < text.length(); at += 20) {
            int[] row = new int[5];
            for (int i = 0; i < 20; i++) {
                row[i / 4] = row[i / 4] << 8 | (at + i < text.length() ? text.charAt(at + i) : random.nextInt(256));
            }
            if (!same(3, row)) {
                return false;
            }
        }
        return true;
    }

    private String drawText() {
        StringBuilder text = new StringBuilder();
        int grades = random.nextInt(20) == 0 ? 13 : random.nextInt(4);
        for (int g = 0; g < grades; g++) {
            text.append("grade ");
            for (int tests = random.nextInt(3); tests >= 0; tests--) {
                text.append(PIECES[1 + random.nextInt(5)]).append(random.nextBoolean() ? "<" : ">");
                text.append(random.nextInt(widest + 50)).append(tests > 0 ? "," : " ");
            }
            text.append("pay ").append(random.nextInt(60)).append(random.nextBoolean() ? "; " : ";");
        }
        if (random.nextInt(3) != 0) {
            text.append("else pay ").append(random.nextInt(30)).append(";");
        }
        if (random.nextInt(3) == 0 && text.length() > 0) {
            int at = random.nextInt(text.length());
            String piece = PIECES[random.nextInt(PIECES.length)];
            if (random.nextBoolean()) {
                text.insert(at, piece);
            } else {
                text.replace(at, Math.min(text.length(), at + random.nextInt(4)), piece);
            }
        }
        return text.substring(0, Math.min(400, text.length()));
    }

    /** Mostly a number of which there are so many, else one beside them. */
    private int drawOf(int size) {
        int edge = random.nextInt(tame ? 60 : 8);
        int[] edges = {-1, size, Integer.MIN_VALUE, Integer.MAX_VALUE};
        return edge < 4 && (edge < 2 || !tame) || size == 0 ? edges[edge % 4] : random.nextInt(size);
    }

    private int[] argumentsOf(int which) {
        int[] to = new int[COUNTS[which]];
        switch (NAMES[which]) {
            case "span": fillSpan(to, model.kinds.size()); break;
            case "sample": fillSpan(to, model.loads.size()); fillNear(to); break;
            case "prove": fillSpan(to, model.melts.size()); fillTrue(to); break;
            case "asked": fillAsked(to); break;
            case "contract": fill(to, model.tape.length() + 1, model.sellers.size(), 30); break;
            case "force": fill(to, model.sellers.size(), 40); break;
            case "usual": fill(to, model.sellers.size(), model.kinds.size(), 5, 2); break;
            case "load": fill(to, model.sellers.size(), model.kinds.size(), 6, 30); to[3]++; break;
            case "told": fill(to, model.loads.size(), 16); break;
            case "layer": fill(to, 6, 5, 13); break;
            case "move": fill(to, 6, 6, 30); break;
            case "charge": fill(to, 21, 6); break;
            case "portions": fill(to, model.melts.size()); break;
            case "portion": fill(to, model.melts.size(), 5, 12); break;
            case "money": fill(to, model.sellers.size()); break;
            case "day": fill(to, tame ? 8 : 1001); break;
            case "count": fill(to, 9); break;
            case "best": case "melt": fill(to, random.nextInt(3) == 0 ? 21 : 6); break;
            case "feed": fill(to, 99, 99, 99, 99, 99); break;
            case "kind": case "seller": break;
            default: fill(to, 6);
        }
        return to;
    }

    private void fill(int[] to, int... sizes) {
        for (int i = 0; i < to.length; i++) {
            to[i] = drawOf(sizes[i]);
        }
    }

    private void fillSpan(int[] to, int size) {
        fill(to, size, 5, widest + 1, widest + 1);
        sortSpan(to, 2);
    }

    private void sortSpan(int[] to, int at) {
        if (to[at] > to[at + 1] && random.nextInt(20) != 0) {
            int kept = to[at];
            to[at] = to[at + 1];
            to[at + 1] = kept;
        }
    }

    /** Samples often have something in common with what is known of the load. */
    private void fillNear(int[] to) {
        boolean known = to[0] >= 0 && to[0] < model.loads.size() && to[1] >= 0 && to[1] < 5;
        if (known && random.nextInt(4) != 0) {
            Model.Come of = model.loads.get(to[0]);
            to[2] = of.low[to[1]] + random.nextInt(7) - 3;
            to[3] = of.high[to[1]] + random.nextInt(7) - 5;
        }
    }

    /** Proofs are often of a mean that can be true. */
    private void fillTrue(int[] to) {
        boolean known = to[0] >= 0 && to[0] < model.melts.size() && to[1] >= 0 && to[1] < 5;
        if (!known || random.nextInt(5) == 0) {
            return;
        }
        int sum = 0;
        int tons = 0;
        for (Model.Part part : model.melts.get(to[0])) {
            int wide = part.high[to[1]] - part.low[to[1]];
            sum += part.tons * (part.low[to[1]] + random.nextInt(wide + 1));
            tons += part.tons;
        }
        to[2] = sum / tons - random.nextInt(3);
        to[3] = sum / tons + random.nextInt(5);
    }

    /** Often all, else about what lies on the heaps, so that some charges are good and some not. */
    private void fillAsked(int[] to) {
        fill(to, 5, widest / 2 + 1, widest + 1);
        sortSpan(to, 1);
        Model.Part one = drawLayer();
        Model.Part other = drawLayer();
        if (random.nextInt(3) != 0 || one == null || other == null) {
            to[1] = 0;
            to[2] = 10000;
        } else if (to[0] >= 0 && to[0] < 5 && random.nextInt(6) != 0) {
            to[1] = random.nextBoolean() ? 0 : (one.low[to[0]] + other.low[to[0]]) / 2;
            to[2] = random.nextBoolean() ? 10000 : (one.high[to[0]] + other.high[to[0]]) / 2;
        }
    }

    private Model.Part drawLayer() {
        for (int tries = 0; tries < 10; tries++) {
            List<Model.Part> heap = model.heaps.get(random.nextInt(6));
            if (!heap.isEmpty()) {
                return heap.get(random.nextInt(heap.size()));
            }
        }
        return null;
    }

    private boolean same(int which, int... a) {
        calls++;
        String due = answer(() -> ofModel(which, a));
        String got = answer(() -> ofYard(which, a));
        if (!got.equals(due)) {
            Check.tell("call " + calls + ": " + NAMES[which] + Arrays.toString(a) + " answered " + got + ", due is " + due);
        }
        return got.equals(due);
    }

    private static String answer(Check.Call call) {
        try {
            return Long.toString(call.answer());
        } catch (RuntimeException thrown) {
            return thrown.getClass().getName();
        }
    }

    /** All that can be asked for without changing anything; calls beyond the 512th of the yard's
     *  are free, but this class goes on as before. */
    private boolean sameState() {
        boolean fine = true;
        for (int i = 0; i < model.loads.size(); i++) {
            for (int what = 0; what < 16; what++) {
                fine &= same(8, i, what);
            }
        }
        for (int heap = 0; heap < 6; heap++) {
            for (int k = 0; k < model.layers(heap); k++) {
                for (int what = 0; what < 13; what++) {
                    fine &= same(12, heap, k, what);
                }
            }
        }
        for (int melt = 0; melt < model.melts.size(); melt++) {
            for (int k = 0; k < model.portions(melt); k++) {
                for (int what = 0; what < 12; what++) {
                    fine &= same(20, melt, k, what);
                }
            }
        }
        for (int i = 0; i < model.sellers.size() * model.kinds.size() * 10; i++) {
            fine &= same(6, i / 10 / model.kinds.size(), i / 10 % model.kinds.size(), i % 10 / 2, i % 2);
        }
        for (int i = 0; i < model.sellers.size(); i++) {
            fine &= same(22, i);
        }
        for (int what = 0; what < 9; what++) {
            fine &= same(24, what);
        }
        return fine;
    }

    private long ofYard(int which, int[] a) {
        switch (NAMES[which]) {
            case "kind": return yard.kind();
            case "span": return yard.span(a[0], a[1], a[2], a[3]);
            case "seller": return yard.seller();
            case "feed": return yard.feed(a[0], a[1], a[2], a[3], a[4]);
            case "contract": return yard.contract(a[0], a[1], a[2]);
            case "force": return yard.force(a[0], a[1]);
            case "usual": return yard.usual(a[0], a[1], a[2], a[3]);
            case "load": return yard.load(a[0], a[1], a[2], a[3]);
            case "told": return yard.told(a[0], a[1]);
            case "sample": return yard.sample(a[0], a[1], a[2], a[3]);
            case "tons": return yard.tons(a[0]);
            case "layers": return yard.layers(a[0]);
            case "layer": return yard.layer(a[0], a[1], a[2]);
            case "move": return yard.move(a[0], a[1], a[2]);
            case "mix": return yard.mix(a[0]);
            case "asked": return yard.asked(a[0], a[1], a[2]);
            case "best": return yard.best(a[0]);
            case "charge": return yard.charge(a[0], a[1]);
            case "melt": return yard.melt(a[0]);
            case "portions": return yard.portions(a[0]);
            case "portion": return yard.portion(a[0], a[1], a[2]);
            case "prove": return yard.prove(a[0], a[1], a[2], a[3]);
            case "money": return yard.money(a[0]);
            case "day": return yard.day(a[0]);
            default: return yard.count(a[0]);
        }
    }

    private long ofModel(int which, int[] a) {
        switch (NAMES[which]) {
            case "kind": return model.kind();
            case "span": return model.span(a[0], a[1], a[2], a[3]);
            case "seller": return model.seller();
            case "feed": return model.feed(a[0], a[1], a[2], a[3], a[4]);
            case "contract": return model.contract(a[0], a[1], a[2]);
            case "force": return model.force(a[0], a[1]);
            case "usual": return model.usual(a[0], a[1], a[2], a[3]);
            case "load": return model.load(a[0], a[1], a[2], a[3]);
            case "told": return model.told(a[0], a[1]);
            case "sample": return model.sample(a[0], a[1], a[2], a[3]);
            case "tons": return model.tons(a[0]);
            case "layers": return model.layers(a[0]);
            case "layer": return model.layer(a[0], a[1], a[2]);
            case "move": return model.move(a[0], a[1], a[2]);
            case "mix": return model.mix(a[0]);
            case "asked": return model.asked(a[0], a[1], a[2]);
            case "best": return model.best(a[0]);
            case "charge": return model.charge(a[0], a[1]);
            case "melt": return model.melt(a[0]);
            case "portions": return model.portions(a[0]);
            case "portion": return model.portion(a[0], a[1], a[2]);
            case "prove": return model.prove(a[0], a[1], a[2], a[3]);
            case "money": return model.money(a[0]);
            case "day": return model.day(a[0]);
            default: return model.count(a[0]);
        }
    }
}
