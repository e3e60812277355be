import java.util.ArrayList;
import java.util.List;

/**
 * All that can be asked of a yard, as lines of question and answer. Yards are made anew for every
 * hundred questions, since an object answers 512 calls alone.
 */
final class State {
    private static final int ASKED_OF_ONE = 100;

    private final Edge.Made made;
    private final List<String> lines = new ArrayList<>();
    private ScrapYard yard;
    private int left = 0;

    private State(Edge.Made made) {
        this.made = made;
    }

    static List<String> of(Edge.Made made) {
        State state = new State(made);
        ScrapYard probe = made.yard();
        state.askCounts();
        state.askHeaps(probe);
        state.askLoads(probe.count(3));
        state.askSellers(probe.count(1), probe.count(0));
        state.askMelts(probe);
        state.askCharges();
        state.askTape(probe.count(8), probe.count(1), probe.count(2));
        return state.lines;
    }

    private void ask(String question, Edge.Ask ask) {
        if (left == 0) {
            yard = made.yard();
            left = ASKED_OF_ONE;
        }
        left--;
        lines.add(question + " = " + Edge.answer(yard, ask));
    }

    private void askCounts() {
        for (int i = 0; i <= 8; i++) {
            int what = i;
            ask("count(" + what + ")", y -> y.count(what));
        }
        ask("day(0)", y -> y.day(0));
    }

    private void askHeaps(ScrapYard probe) {
        for (int i = 0; i < 6; i++) {
            int heap = i;
            ask("tons(" + heap + ")", y -> y.tons(heap));
            ask("layers(" + heap + ")", y -> y.layers(heap));
            int layers = probe.layers(heap);
            for (int j = 0; j < 13 * layers; j++) {
                int k = j / 13;
                int what = j % 13;
                ask("layer(" + heap + ", " + k + ", " + what + ")", y -> y.layer(heap, k, what));
            }
        }
    }

    private void askLoads(int loads) {
        for (int i = 0; i < 16 * loads; i++) {
            int load = i / 16;
            int what = i % 16;
            ask("told(" + load + ", " + what + ")", y -> y.told(load, what));
        }
    }

    private void askSellers(int sellers, int kinds) {
        for (int i = 0; i < sellers; i++) {
            int seller = i;
            ask("money(" + seller + ")", y -> y.money(seller));
            for (int day : new int[] {0, 1, 2, 3, 4, 5, 6, 100, 10000}) {
                ask("force(" + seller + ", " + day + ")", y -> y.force(seller, day));
            }
            for (int j = 0; j < 10 * kinds; j++) {
                int kind = j / 10;
                int metal = j % 10 / 2;
                int side = j % 2;
                ask("usual(" + seller + ", " + kind + ", " + metal + ", " + side + ")",
                        y -> y.usual(seller, kind, metal, side));
            }
        }
    }

    private void askMelts(ScrapYard probe) {
        int melts = probe.count(5);
        for (int i = 0; i < melts; i++) {
            int melt = i;
            ask("portions(" + melt + ")", y -> y.portions(melt));
            int portions = probe.portions(melt);
            for (int j = 0; j < 12 * portions; j++) {
                int k = j / 12;
                int what = j % 12;
                ask("portion(" + melt + ", " + k + ", " + what + ")", y -> y.portion(melt, k, what));
            }
        }
    }

    /** What is ASKED for shows in the charges alone. */
    private void askCharges() {
        for (int i : new int[] {1, 3, 20}) {
            int tons = i;
            ask("best(" + tons + ")", y -> y.best(tons));
            for (int j = 0; j < 6; j++) {
                int heap = j;
                ask("charge(" + tons + ", " + heap + ")", y -> y.charge(tons, heap));
            }
        }
    }

    /** The bytes of the TAPE show in its PLACES, and in what a text on it pays. */
    private void askTape(int bytes, int sellers, int contracts) {
        if (sellers == 0 || contracts == 20) {
            return;
        }
        for (int i = 0; i <= bytes; i += 10) {
            int n = i;
            left = 0;
            ask("contract(" + n + ", 0, 0)", y -> y.contract(n, 0, 0));
        }
        left = 0;
        ask("PAY by the TAPE", y -> {
            y.contract(bytes, 0, y.day(0));
            return y.told(y.load(0, 0, 0, 1), 5);
        });
    }
}
