import java.util.NoSuchElementException;

/** Promises 9 to 11 and 24: loads, what is told of them, and samples that come late. */
public final class LoadsTest {
    private static final String GRADES = "grade cu<100, ni>50 pay 9; grade cu<200 pay 7; grade ph>9999 pay 20;";

    public static void main(String[] args) {
        toldOfLoads();
        sureTests();
        namesOfMetals();
        refused();
        limits();
        wrongCalls();
        samples();
        lateSamples();
        lowerPay();
        Check.end();
    }

    private static ScrapYard gradingYard(String text) {
        ScrapYard yard = new ScrapYard();
        yard.kind();
        yard.kind();
        yard.seller();
        yard.seller();
        Check.contract(yard, text, 1, 0);
        return yard;
    }

    private static void toldOfLoads() {
        ScrapYard yard = gradingYard(GRADES);
        yard.span(1, 0, 10, 150);
        yard.span(1, 1, 60, 70);
        yard.span(1, 2, 3, 4);
        yard.span(1, 3, 5, 6);
        yard.span(1, 4, 7, 8);
        yard.day(12);
        Check.is("load", yard.load(1, 1, 5, 50), 0);
        int[] due = {1, 1, 50, 12, 1, 7, 10, 150, 60, 70, 3, 4, 5, 6, 7, 8};
        for (int what = 0; what < due.length; what++) {
            Check.is("told(0, " + what + ")", yard.told(0, what), due[what]);
        }
        Check.is("money", yard.money(1), 350);
        int[] lies = {50, 0, 7, 10, 150, 60, 70, 3, 4, 5, 6, 7, 8};
        for (int what = 0; what < lies.length; what++) {
            Check.is("layer(5, 0, " + what + ")", yard.layer(5, 0, what), lies[what]);
        }
        yard.load(1, 1, 5, 1);
        Check.is("topmost", yard.layer(5, 0, 1), 1);
        Check.isThrown("told(0, -1)", IllegalArgumentException.class, () -> yard.told(0, -1));
        Check.isThrown("told(0, 16)", IllegalArgumentException.class, () -> yard.told(0, 16));
        Check.isThrown("told(2, 16)", NoSuchElementException.class, () -> yard.told(2, 16));
        Check.isThrown("told(-1, 0)", NoSuchElementException.class, () -> yard.told(-1, 0));
    }

    private static void sureTests() {
        gradeIs("grade cu<100 pay 1;else pay 2;", 0, 99, 0);
        gradeIs("grade cu<100 pay 1;else pay 2;", 0, 100, 1);
        gradeIs("grade cu>100 pay 1;else pay 2;", 101, 200, 0);
        gradeIs("grade cu>100 pay 1;else pay 2;", 100, 200, 1);
        gradeIs("grade cu<99,cu<50 pay 1;grade cu<50,cu<99 pay 1;else pay 2;", 0, 70, 2);
        gradeIs("grade cu>9,cu>50 pay 1;grade cu>50,cu>9 pay 1;else pay 2;", 20, 70, 2);
        gradeIs("grade cu>9,cu<50 pay 1;", 10, 49, 0);
        gradeIs("grade cu<10001 pay 1;", 0, 10000, 0);
        gradeIs("grade cu<10000 pay 1;else pay 1;", 0, 10000, 1);
        gradeIs("grade cu<99999 pay 1;", 0, 10000, 0);
        gradeIs("grade cu>0 pay 1;else pay 1;", 0, 10000, 1);
        gradeIs("grade cu>99999 pay 1;else pay 1;", 10000, 10000, 1);
        gradeIs("else pay 4;", 0, 10000, 0);
        gradeIs("grade ni<1 pay 1;grade cr<1 pay 1;grade sn<1 pay 1;grade ph<1 pay 1;grade cu<1 pay 1;", 0, 0, 4);
    }

    private static void namesOfMetals() {
        String[] names = {"cu", "ni", "cr", "sn", "ph"};
        for (int metal = 0; metal < 5; metal++) {
            ScrapYard yard = gradingYard("grade " + names[metal] + "<6 pay 1;else pay 2;");
            yard.load(1, 0, 0, 1);
            for (int other = 0; other < 5; other++) {
                yard.sample(0, other, 5, other == metal ? 6 : 5);
            }
            Check.is("GRADE by " + names[metal], yard.told(0, 4), 1);
            yard.sample(0, metal, 5, 5);
            Check.is("GRADE by " + names[metal], yard.told(0, 4), 0);
        }
    }

    private static void gradeIs(String text, int low, int high, int grade) {
        ScrapYard yard = gradingYard(text);
        yard.span(0, 0, low, high);
        Check.is("load by " + text, yard.load(1, 0, 0, 1), 0);
        Check.is("GRADE by " + text, yard.told(0, 4), grade);
    }

    private static void refused() {
        ScrapYard yard = gradingYard(GRADES);
        Check.is("REFUSED", yard.load(1, 0, 0, 5), -1);
        Check.is("nothing is paid", yard.money(1), 0);
        Check.is("nothing lies there", yard.tons(0), 0);
        yard.span(0, 0, 0, 10);
        Check.is("no number is given", yard.load(1, 0, 0, 5), 0);
        Check.is("no CONTRACT", yard.load(0, 0, 0, 5), -4);
        ScrapYard empty = gradingYard("");
        Check.is("a text without GRADES refuses", empty.load(1, 0, 0, 1), -1);
        Check.contract(empty, "else pay 0;", 0, 1);
        Check.is("not in force today", empty.load(0, 0, 0, 1), -4);
        empty.day(1);
        Check.is("in force today", empty.load(0, 0, 0, 1), 0);
    }

    private static void limits() {
        ScrapYard yard = Check.openYard(1, 1);
        yard.seller();
        yard.contract(0, 1, 0);
        yard.seller();
        for (int i = 0; i < 40; i++) {
            Check.is("load", yard.load(0, 0, i % 6, 1), i);
        }
        Check.is("40 LAYERS", yard.load(0, 0, 0, 1), -3);
        Check.is("40 LAYERS ahead of REFUSED", yard.load(1, 0, 0, 1), -3);
        Check.is("40 LAYERS ahead of no CONTRACT", yard.load(2, 0, 0, 1), -3);
        for (int i = 40; i < 100; i++) {
            Check.is("melt or mix", i % 2 == 0 ? yard.mix(i % 6) > 0 ? 1 : 0 : 1, 1);
            if (yard.count(4) >= 40) {
                yard.mix(1);
            }
            Check.is("load", yard.load(0, 0, i % 6, 1), i);
        }
        Check.is("100 LOADS", yard.load(0, 0, 0, 1), -2);
        Check.is("100 LOADS ahead of REFUSED", yard.load(1, 0, 0, 1), -2);
        Check.is("100 LOADS ahead of no CONTRACT", yard.load(2, 0, 0, 1), -2);
        fillWithLayers(yard);
        Check.is("100 LOADS ahead of 40 LAYERS", yard.load(0, 0, 0, 1), -2);
        Check.is("count(3)", yard.count(3), 100);
    }

    private static void fillWithLayers(ScrapYard yard) {
        for (int heap = 0; heap < 6; heap++) {
            yard.mix(heap);
        }
        for (int i = 0; i < 60 && yard.count(4) < 40; i++) {
            yard.move(i % 5, 5, 1);
        }
        Check.is("count(4)", yard.count(4), 40);
    }

    private static void wrongCalls() {
        ScrapYard yard = gradingYard("");
        Class<NoSuchElementException> none = NoSuchElementException.class;
        Class<IllegalArgumentException> wrong = IllegalArgumentException.class;
        Check.isThrown("load: SELLER", none, () -> yard.load(2, 0, 6, 51));
        Check.isThrown("load: SELLER", none, () -> yard.load(-1, 0, 0, 1));
        Check.isThrown("load: KIND", none, () -> yard.load(0, 2, 6, 51));
        Check.isThrown("load: KIND", none, () -> yard.load(0, -1, 0, 1));
        Check.isThrown("load: HEAP", wrong, () -> yard.load(0, 0, 6, 1));
        Check.isThrown("load: HEAP", wrong, () -> yard.load(0, 0, -1, 1));
        Check.isThrown("load: TONS", wrong, () -> yard.load(0, 0, 0, 0));
        Check.isThrown("load: TONS", wrong, () -> yard.load(0, 0, 0, 51));
        Check.isThrown("sample: LOAD", none, () -> yard.sample(0, 9, 2, 1));
        Check.isThrown("sample: LOAD", none, () -> yard.sample(-1, 0, 0, 1));
        Check.contract(yard, "else pay 1;", 0, 0);
        yard.load(0, 0, 0, 1);
        Check.isThrown("sample: METAL", wrong, () -> yard.sample(0, 5, 0, 1));
        Check.isThrown("sample: METAL", wrong, () -> yard.sample(0, -1, 0, 1));
        Check.isThrown("sample: SPAN", wrong, () -> yard.sample(0, 0, 2, 1));
        Check.isThrown("sample: SPAN", wrong, () -> yard.sample(0, 0, -1, 1));
        Check.isThrown("sample: SPAN", wrong, () -> yard.sample(0, 0, 0, 10001));
    }

    private static void samples() {
        ScrapYard yard = Check.openYard(1, 3);
        yard.span(0, 1, 100, 200);
        yard.load(0, 0, 0, 10);
        yard.load(0, 0, 0, 10);
        yard.move(0, 1, 14);
        yard.move(1, 2, 1);
        Check.is("sample below", yard.sample(0, 1, 0, 99), 0);
        Check.is("sample above", yard.sample(0, 1, 201, 300), 0);
        Check.is("nothing done", yard.told(0, 8) * 1000 + yard.told(0, 9), 100200);
        Check.is("one part common", yard.sample(1, 1, 200, 300), 1);
        Check.is("LOW then", yard.told(1, 8), 200);
        Check.is("sample", yard.sample(0, 1, 50, 150), 1);
        Check.is("LOW", yard.told(0, 8), 100);
        Check.is("HIGH", yard.told(0, 9), 150);
        Check.is("LAYER that kept the rest", yard.layer(0, 0, 6), 150);
        Check.is("LAYER that was moved", yard.layer(1, 0, 6), 150);
        Check.is("LAYER that was moved on", yard.layer(2, 0, 6), 150);
        Check.is("LAYER of the other LOAD", yard.layer(1, 1, 5), 200);
        Check.is("other METAL", yard.layer(0, 0, 4), 10000);
        yard.melt(1);
        yard.mix(1);
        int mixedHigh = yard.layer(1, 0, 6);
        yard.sample(0, 1, 120, 120);
        Check.is("a mixed LAYER stays", yard.layer(1, 0, 6), mixedHigh);
        Check.is("a PORTION stays", yard.portion(0, 0, 5), 150);
        Check.is("what is USUAL stays", yard.usual(0, 0, 1, 1), 200);
    }

    private static void lateSamples() {
        ScrapYard yard = gradingYard(GRADES + "else pay 1;");
        yard.load(1, 0, 0, 10);
        Check.is("else", yard.told(0, 4), 3);
        Check.is("money", yard.money(1), 10);
        yard.day(5);
        Check.contract(yard, "else pay 500;", 1, 0);
        Check.is("sample", yard.sample(0, 0, 0, 199), 1);
        Check.is("GRADE by the same CONTRACT", yard.told(0, 4), 1);
        Check.is("PAY", yard.told(0, 5), 7);
        Check.is("the difference is paid", yard.money(1), 70);
        Check.is("COST as it came there", yard.layer(0, 0, 2), 1);
        Check.is("the DAY it came", yard.told(0, 3), 0);
        yard.move(0, 1, 4);
        Check.is("COST stays when it is moved", yard.layer(1, 0, 2), 1);
        yard.melt(10);
        yard.sample(0, 0, 0, 50);
        yard.sample(0, 1, 51, 51);
        Check.is("GRADE of a melted LOAD", yard.told(0, 4), 0);
        Check.is("money of a melted LOAD", yard.money(1), 90);
    }

    private static void lowerPay() {
        ScrapYard yard = gradingYard("grade cu>100 pay 1; else pay 30;");
        yard.load(1, 0, 0, 4);
        yard.sample(0, 0, 101, 101);
        Check.is("PAY", yard.told(0, 5), 1);
        Check.is("owed back", yard.money(1), 4);
    }
}
