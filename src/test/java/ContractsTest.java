import java.util.NoSuchElementException;

/** Promises 5 to 7: the tape, contracts as texts, and which one is in force. */
public final class ContractsTest {
    public static void main(String[] args) {
        feeding();
        goodTexts();
        places();
        manyGrades();
        wrongCalls();
        twenty();
        forces();
        Check.end();
    }

    private static void feeding() {
        ScrapYard yard = new ScrapYard();
        yard.seller();
        for (int i = 1; i <= 20; i++) {
            Check.is("feed", yard.feed(-1, 0, 1, 2, 3), 20 * i);
        }
        Check.is("feed above 400", yard.feed(0, 0, 0, 0, 0), -1);
        Check.is("count(8)", yard.count(8), 400);
        Check.is("text of byte 255", yard.contract(400, 0, 0), -2);
        Check.is("the TAPE is empty then", yard.count(8), 0);
        Check.is("feed", yard.feed(0x656c7365, 0x20706179, 0x20373b00, 0, 0), 20);
        Check.is("bytes, the highest first", yard.contract(11, 0, 0), 0);
        yard.kind();
        yard.load(0, 0, 0, 1);
        Check.is("PAY", yard.told(0, 5), 7);
    }

    private static void goodTexts() {
        String[] texts = {
            "", "   ", "else pay 1;", " else  pay  1  ;  ", "else pay1;", "else pay 99999;",
            "else pay 00000;", "grade cu<1 pay 1;", "grade cu<1pay1;else pay1;",
            "grade cu<1,ni>2,cr<3,sn>4,ph<5 pay 6;", "grade cu < 1 , cu > 0 pay 5 ; grade ph>9 pay 0;",
        };
        ScrapYard yard = new ScrapYard();
        yard.seller();
        for (int i = 0; i < texts.length; i++) {
            Check.is("contract '" + texts[i] + "'", Check.contract(yard, texts[i], 0, 0), i);
        }
    }

    private static void places() {
        placeIs("x", 0);
        placeIs("  x", 2);
        placeIs("gradecu<1 pay 1;", 0);
        placeIs("gra", 0);
        placeIs("grades", 0);
        placeIs("Grade cu<1 pay 1;", 0);
        placeIs("grade", 5);
        placeIs("grade   ", 8);
        placeIs("grade 5", 6);
        placeIs("grade pay 5;", 6);
        placeIs("grade cux<1 pay 1;", 6);
        placeIs("grade c<1 pay 1;", 6);
        placeIs("grade cu", 8);
        placeIs("grade cu pay 1;", 9);
        placeIs("grade cu 5 pay 1;", 9);
        placeIs("grade cu< pay 1;", 10);
        placeIs("grade cu<,ni<1 pay 1;", 9);
        placeIs("grade cu =1", 9);
        placeIs("grade cu<<1", 9);
        placeIs("grade cu<-1", 9);
        placeIs("grade cu<x", 9);
        placeIs("grade cu<", 9);
        placeIs("grade cu<123456 pay 1;", 14);
        placeIs("grade cu<  000001 pay 1;", 16);
        placeIs("grade cu<12345 6 pay 1;", 15);
        placeIs("grade cu<1;", 10);
        placeIs("grade cu<1 payy 1;", 11);
        placeIs("grade cu<1 grade", 11);
        placeIs("grade cu<1,", 11);
        placeIs("grade cu<1, pay 1;", 12);
        placeIs("grade cu<1 pay", 14);
        placeIs("grade cu<1 pay ;", 15);
        placeIs("grade cu<1 pay 1", 16);
        placeIs("grade cu<1 pay 1,", 16);
        placeIs("grade cu<1 pay 123456;", 20);
        placeIs("grade cu<1 pay 1;;", 17);
        placeIs("pay 1;", 0);
        placeIs("elsepay 1;", 0);
        placeIs("else", 4);
        placeIs("else grade", 5);
        placeIs("else pay 1; else pay 1;", 12);
        placeIs("else pay 1;grade cu<1 pay 1;", 11);
        placeIs("else pay 1;\t", 11);
        placeIs("else pay 1; " + (char) 0, 12);
        placeIs("else pay 1;" + (char) 160, 11);
    }

    private static void placeIs(String text, int place) {
        ScrapYard yard = new ScrapYard();
        yard.seller();
        Check.is("contract '" + text + "'", Check.contract(yard, text, 0, 0), -2 - place);
        Check.is("count(2) after it", yard.count(2), 0);
        Check.is("count(8) after it", yard.count(8), 0);
        Check.is("force after it", yard.force(0, 0), -1);
    }

    private static void manyGrades() {
        String twelve = "grade cu<1 pay 1;".repeat(12);
        ScrapYard yard = new ScrapYard();
        yard.seller();
        Check.is("12 GRADES", Check.contract(yard, twelve, 0, 0), 0);
        Check.is("12 GRADES and else", Check.contract(yard, twelve + "else pay 2;", 0, 0), 1);
        Check.is("a 13th", Check.contract(yard, twelve + "  grade", 0, 0), -2 - 206);
        StringBuilder long400 = new StringBuilder("grade cu<1");
        while (long400.length() + 5 + 6 <= 400) {
            long400.append(",ni>2");
        }
        Check.is("many TESTS", Check.contract(yard, long400.append("pay 1;").toString(), 0, 0), 2);
    }

    private static void wrongCalls() {
        ScrapYard yard = new ScrapYard();
        yard.seller();
        yard.feed(0x20202020, 0, 0, 0, 0);
        Class<NoSuchElementException> none = NoSuchElementException.class;
        Class<IllegalArgumentException> wrong = IllegalArgumentException.class;
        Check.isThrown("contract: SELLER 1", none, () -> yard.contract(-1, 1, -1));
        Check.isThrown("contract: SELLER -1", none, () -> yard.contract(0, -1, 0));
        Check.isThrown("contract: n -1", wrong, () -> yard.contract(-1, 0, 0));
        Check.isThrown("contract: n 21", wrong, () -> yard.contract(21, 0, 0));
        Check.isThrown("contract: DAY -1", wrong, () -> yard.contract(0, 0, -1));
        Check.isThrown("contract: DAY 10001", wrong, () -> yard.contract(0, 0, 10001));
        Check.is("the TAPE stays", yard.count(8), 20);
        Check.is("n bytes only", yard.contract(4, 0, 10000), 0);
        Check.is("the rest is gone", yard.count(8), 0);
    }

    private static void twenty() {
        ScrapYard yard = new ScrapYard();
        yard.seller();
        for (int i = 0; i < 20; i++) {
            Check.is("contract", yard.contract(0, 0, 0), i);
        }
        yard.feed(0, 0, 0, 0, 0);
        Class<IllegalStateException> full = IllegalStateException.class;
        Check.isThrown("21st", full, () -> yard.contract(0, 0, 0));
        Check.isThrown("21st, no text", full, () -> yard.contract(20, 0, 0));
        Check.isThrown("21st: n", IllegalArgumentException.class, () -> yard.contract(21, 0, 0));
        Check.isThrown("21st: SELLER", NoSuchElementException.class, () -> yard.contract(0, 1, 0));
        Check.is("the TAPE stays", yard.count(8), 20);
    }

    private static void forces() {
        ScrapYard yard = new ScrapYard();
        yard.seller();
        yard.seller();
        int[] days = {5, 3, 5, 4, 9};
        for (int day : days) {
            yard.contract(0, 0, day);
        }
        yard.contract(0, 1, 6);
        int[] due = {-1, -1, -1, 1, 3, 2, 2, 2, 2, 4, 4};
        for (int day = 0; day < due.length; day++) {
            Check.is("force(0, " + day + ")", yard.force(0, day), due[day]);
        }
        Check.is("force of the other", yard.force(1, 5), -1);
        Check.is("force of the other", yard.force(1, 9), 5);
        Check.is("force, least day", yard.force(0, Integer.MIN_VALUE), -1);
        Check.is("force, greatest day", yard.force(0, Integer.MAX_VALUE), 4);
        Check.isThrown("force(2)", NoSuchElementException.class, () -> yard.force(2, 0));
        Check.isThrown("force(-1)", NoSuchElementException.class, () -> yard.force(-1, 0));
    }
}
