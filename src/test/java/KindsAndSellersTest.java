import java.util.NoSuchElementException;

/** Promises 1 to 4, 8, 24, 25 and 26: what is there at first, kinds, sellers, days and counts. */
public final class KindsAndSellersTest {
    public static void main(String[] args) {
        newYard();
        kinds();
        spans();
        sellers();
        usual();
        money();
        days();
        counts();
        Check.end();
    }

    private static void newYard() {
        ScrapYard yard = new ScrapYard();
        for (int what = 0; what <= 8; what++) {
            Check.is("new: count(" + what + ")", yard.count(what), 0);
        }
        for (int heap = 0; heap <= 5; heap++) {
            Check.is("new: tons", yard.tons(heap), 0);
            Check.is("new: layers", yard.layers(heap), 0);
        }
        Check.is("new: best(1)", yard.best(1), -1);
        Check.is("new: day(0)", yard.day(0), 0);
    }

    private static void kinds() {
        ScrapYard yard = new ScrapYard();
        for (int i = 0; i < 10; i++) {
            Check.is("kind()", yard.kind(), i);
        }
        Check.is("11th kind()", yard.kind(), -1);
        Check.is("count(0)", yard.count(0), 10);
    }

    private static void spans() {
        ScrapYard yard = Check.openYard(2, 1);
        for (int metal = 0; metal < 5; metal++) {
            Check.is("LOW at first", yard.usual(0, 1, metal, 0), 0);
            Check.is("HIGH at first", yard.usual(0, 1, metal, 1), 10000);
            Check.is("span", yard.span(1, metal, 10 * metal, 10 * metal + 1), 1);
        }
        for (int metal = 0; metal < 5; metal++) {
            Check.is("LOW of the KIND", yard.usual(0, 1, metal, 0), 10 * metal);
            Check.is("HIGH of the KIND", yard.usual(0, 1, metal, 1), 10 * metal + 1);
            Check.is("HIGH of the other KIND", yard.usual(0, 0, metal, 1), 10000);
        }
        Check.is("span of one part", yard.span(0, 4, 10000, 10000), 1);
        Check.is("span(0..0)", yard.span(0, 4, 0, 0), 1);
        Check.is("load", yard.load(0, 0, 0, 1), 0);
        yard.span(0, 4, 7, 9);
        Check.is("a LOAD stays", yard.told(0, 15), 0);
        Check.is("a LAYER stays", yard.layer(0, 0, 12), 0);
        noSpans(yard);
    }

    private static void noSpans(ScrapYard yard) {
        Class<NoSuchElementException> none = NoSuchElementException.class;
        Class<IllegalArgumentException> wrong = IllegalArgumentException.class;
        Check.isThrown("span(-1..)", none, () -> yard.span(-1, 0, 0, 0));
        Check.isThrown("span(2..)", none, () -> yard.span(2, 0, 0, 0));
        Check.isThrown("span: KIND ahead of METAL", none, () -> yard.span(2, 5, 2, 1));
        Check.isThrown("span: METAL -1", wrong, () -> yard.span(0, -1, 0, 0));
        Check.isThrown("span: METAL 5", wrong, () -> yard.span(0, 5, 0, 0));
        Check.isThrown("span: LOW -1", wrong, () -> yard.span(0, 0, -1, 5));
        Check.isThrown("span: HIGH 10001", wrong, () -> yard.span(0, 0, 0, 10001));
        Check.isThrown("span: both above", wrong, () -> yard.span(0, 0, 10001, 10001));
        Check.isThrown("span: LOW above HIGH", wrong, () -> yard.span(0, 0, 6, 5));
        Check.isThrown("span: least", wrong, () -> yard.span(0, 0, Integer.MIN_VALUE, Integer.MAX_VALUE));
        Check.is("nothing changed", yard.usual(0, 0, 0, 1), 10000);
    }

    private static void sellers() {
        ScrapYard yard = new ScrapYard();
        for (int i = 0; i < 8; i++) {
            Check.is("seller()", yard.seller(), i);
        }
        Check.is("9th seller()", yard.seller(), -1);
        Check.is("count(1)", yard.count(1), 8);
    }

    private static void usual() {
        ScrapYard yard = Check.openYard(1, 1);
        Class<NoSuchElementException> none = NoSuchElementException.class;
        Class<IllegalArgumentException> wrong = IllegalArgumentException.class;
        Check.isThrown("usual: SELLER -1", none, () -> yard.usual(-1, 0, 0, 0));
        Check.isThrown("usual: SELLER 1", none, () -> yard.usual(1, 0, 9, 9));
        Check.isThrown("usual: KIND -1", none, () -> yard.usual(0, -1, 0, 0));
        Check.isThrown("usual: KIND 1", none, () -> yard.usual(0, 1, 9, 9));
        Check.isThrown("usual: METAL -1", wrong, () -> yard.usual(0, 0, -1, 0));
        Check.isThrown("usual: METAL 5", wrong, () -> yard.usual(0, 0, 5, 0));
        Check.isThrown("usual: side -1", wrong, () -> yard.usual(0, 0, 0, -1));
        Check.isThrown("usual: side 2", wrong, () -> yard.usual(0, 0, 0, 2));
    }

    private static void money() {
        ScrapYard yard = Check.openYard(1, 99999);
        yard.seller();
        Check.is("money at first", yard.money(0), 0);
        yard.load(0, 0, 0, 50);
        yard.load(0, 0, 0, 3);
        Check.is("money", yard.money(0), 53L * 99999);
        Check.is("money of the other", yard.money(1), 0);
        Check.isThrown("money(-1)", NoSuchElementException.class, () -> yard.money(-1));
        Check.isThrown("money(2)", NoSuchElementException.class, () -> yard.money(2));
    }

    private static void days() {
        ScrapYard yard = new ScrapYard();
        Class<IllegalArgumentException> wrong = IllegalArgumentException.class;
        Check.isThrown("day(-1)", wrong, () -> yard.day(-1));
        Check.isThrown("day(1001)", wrong, () -> yard.day(1001));
        Check.isThrown("day(most)", wrong, () -> yard.day(Integer.MAX_VALUE));
        Check.is("day(1)", yard.day(1), 1);
        for (int i = 1; i <= 9; i++) {
            Check.is("day(1000)", yard.day(1000), 1 + 1000 * i);
        }
        Check.isThrown("day above 10000", wrong, () -> yard.day(1000));
        Check.is("day(999)", yard.day(999), 10000);
        Check.isThrown("day 10001", wrong, () -> yard.day(1));
        Check.is("day(0)", yard.day(0), 10000);
    }

    private static void counts() {
        ScrapYard yard = Check.openYard(3, 5);
        yard.seller();
        yard.load(0, 0, 0, 8);
        yard.load(0, 1, 1, 7);
        yard.load(0, 2, 1, 6);
        yard.melt(6);
        yard.melt(3);
        yard.feed(0, 0, 0, 0, 0);
        int[] due = {3, 2, 1, 3, 3, 2, 12, 9, 20};
        yard.move(0, 1, 1);
        due[4] = yard.layers(0) + yard.layers(1);
        for (int what = 0; what < due.length; what++) {
            Check.is("count(" + what + ")", yard.count(what), due[what]);
        }
        Check.is("count(-1)", yard.count(-1), -1);
        Check.is("count(9)", yard.count(9), -1);
    }
}
