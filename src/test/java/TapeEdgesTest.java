import java.util.Arrays;

/** Edges of promises 5 to 7: the TAPE, what contract() takes and refuses, and what is in force. */
public final class TapeEdgesTest {
    public static void main(String[] args) {
        bytesInOrder();
        fourHundredBytes();
        nothingFedBeyond();
        firstBytes();
        emptyThen();
        textsOfNoneAndOfAll();
        numberOrPlace();
        sellersOfContract();
        bytesOfContract();
        daysOfContract();
        twentyInAll();
        twentyAfterWrongTexts();
        wrongAheadOfTwenty();
        sellersOfForce();
        noneInForce();
        greatestDay();
        toldLast();
        inForceOfEachSeller();
        Check.end();
    }

    private static ScrapYard sellerYard() {
        return Yards.withSellers(1);
    }

    private static int feedBytes(ScrapYard yard, int... bytes) {
        int[] row = new int[5];
        for (int i = 0; i < 20; i++) {
            row[i / 4] = row[i / 4] << 8 | bytes[i];
        }
        return yard.feed(row[0], row[1], row[2], row[3], row[4]);
    }

    private static int[] blanksBut(int place, int sign) {
        int[] bytes = new int[20];
        Arrays.fill(bytes, 32);
        bytes[place] = sign;
        return bytes;
    }

    private static void bytesInOrder() {
        Edge.holds("Promise 5", "Twenty bytes come on the TAPE, of each number the highest first");
        for (int place = 0; place < 20; place++) {
            for (int sign : new int[] {0, 31, 33, 127, 128, 255}) {
                ScrapYard yard = sellerYard();
                Check.is("feed", feedBytes(yard, blanksBut(place, sign)), 20);
                Check.is("byte " + sign + " at " + place, yard.contract(20, 0, 0), -2 - place);
            }
        }
    }

    private static void fourHundredBytes() {
        Edge.holds("Promise 5", "how many there are");
        ScrapYard yard = sellerYard();
        for (int i = 1; i <= 20; i++) {
            Check.is("feed", yard.feed(-1, -1, -1, -1, -1), 20 * i);
            Check.is("count(8)", yard.count(8), 20 * i);
        }
    }

    /** 20 rows: 399 blanks, then one byte that can't stand there. */
    private static ScrapYard fullTape() {
        ScrapYard yard = sellerYard();
        for (int i = 0; i < 19; i++) {
            feedBytes(yard, blanksBut(0, 32));
        }
        feedBytes(yard, blanksBut(19, 33));
        return yard;
    }

    private static void nothingFedBeyond() {
        Edge.holds("Promise 5", "NONE, doing nothing, if there would be more than 400.");
        Edge.leavesAll("a 21st feed", -1, TapeEdgesTest::fullTape, y -> y.feed(0, 0, 0, 0, 0));
        ScrapYard yard = fullTape();
        Check.is("feed", yard.feed(0, 0, 0, 0, 0), -1);
        Check.is("feed again", yard.feed(-1, -1, -1, -1, -1), -1);
        Check.is("its last byte is still the one fed", yard.contract(400, 0, 0), -2 - 399);
        Check.is("feed then", yard.feed(0, 0, 0, 0, 0), 20);
        yard = fullTape();
        yard.feed(0, 0, 0, 0, 0);
        Check.is("and those ahead are", yard.contract(399, 0, 0), 0);
        yard = sellerYard();
        Check.feedText(yard, " ".repeat(380) + "         else pay 7;");
        Check.is("feed", yard.feed(0x656c7365, 0x20706179, 0x20383b20, 0x20202020, 0x20202020), -1);
        Check.is("its text is still the one fed", yard.contract(400, 0, 0), 0);
        yard.load(0, 0, 0, 1);
        Check.is("its PAY", yard.told(0, 5), 7);
    }

    private static void firstBytes() {
        Edge.holds("Promise 6", "The first n bytes of the TAPE");
        ScrapYard yard = sellerYard();
        Check.feedText(yard, "else pay 12;        x");
        Check.is("40 bytes", yard.count(8), 40);
        Check.is("the first 20 are a text", yard.contract(20, 0, 0), 0);
        Check.feedText(yard, "else pay 12;        x");
        Check.is("the first 21 are none", yard.contract(21, 0, 0), -2 - 20);
        Check.feedText(yard, "else pay 12;        x");
        Check.is("the first 12 are a text", yard.contract(12, 0, 0), 1);
        Check.feedText(yard, "else pay 12;        x");
        Check.is("the first 11 are none", yard.contract(11, 0, 0), -2 - 11);
    }

    private static void emptyThen() {
        Edge.holds("Promise 6", "(empty then)");
        ScrapYard yard = sellerYard();
        Check.feedText(yard, "else pay 12;        else pay 13;");
        Check.is("a text", yard.contract(20, 0, 0), 0);
        Check.is("the rest is gone too", yard.count(8), 0);
        Check.feedText(yard, "else pay 12;        x");
        Check.is("none of them taken", yard.contract(0, 0, 0), 1);
        Check.is("all gone too", yard.count(8), 0);
        Check.feedText(yard, "x");
        Check.is("a text that is none", yard.contract(1, 0, 0), -2);
        Check.is("gone as well", yard.count(8), 0);
        Check.is("what is fed then stands first", Check.contract(yard, "else pay 1;", 0, 0), 2);
    }

    private static void textsOfNoneAndOfAll() {
        Edge.holds("Promise 6", "n is not 0 to the TAPE's bytes");
        ScrapYard yard = sellerYard();
        Check.is("0 of 0 bytes", yard.contract(0, 0, 0), 0);
        Check.feedText(yard, "else pay 1;");
        Check.is("0 of 20 bytes", yard.contract(0, 0, 0), 1);
        Check.is("20 of 20 bytes", Check.contract(yard, "         else pay 1;", 0, 0), 2);
        Check.is("400 of 400 bytes", Check.contract(yard, " ".repeat(389) + "else pay 1;", 0, 0), 3);
        Check.is("count(2)", yard.count(2), 4);
    }

    private static void numberOrPlace() {
        Edge.holds("Promise 6", "its number, or -2 less its PLACE");
        ScrapYard yard = sellerYard();
        Check.is("PLACE 0", Check.contract(yard, "x", 0, 0), -2);
        Check.is("PLACE 399", Check.contract(yard, " ".repeat(399) + "x", 0, 0), -401);
        Check.is("PLACE 400", Check.contract(yard, "else pay" + " ".repeat(392), 0, 0), -402);
        Check.is("no number was given", yard.count(2), 0);
        Check.is("none is in force", yard.force(0, 0), -1);
        for (int i = 0; i < 20; i++) {
            Check.is("number", yard.contract(0, 0, 0), i);
        }
    }

    private static void sellersOfContract() {
        Edge.holds("Promise 6", "NoSuchElementException: no such SELLER");
        for (int seller : new int[] {-1, 2, Edge.LEAST, Edge.MOST}) {
            Edge.throwsOnly("contract(40, " + seller + ", 0)", Edge.MISSING, Yards::busy, y -> y.contract(40, seller, 0));
            Edge.throwsOnly("with nothing right", Edge.MISSING, Yards::busy, y -> y.contract(41, seller, 10001));
        }
        Check.isThrown("of no SELLERS", Edge.MISSING, () -> new ScrapYard().contract(0, 0, 0));
        Check.is("the first", Yards.busy().contract(40, 0, 0), 3);
        Check.is("the last", Yards.busy().contract(40, 1, 0), 3);
    }

    private static void bytesOfContract() {
        Edge.holds("Promise 6", "IllegalArgumentException: n is not 0 to the TAPE's bytes");
        for (int n : new int[] {-1, 41, Edge.LEAST, Edge.MOST}) {
            Edge.throwsOnly("contract(" + n + ", 0, 0)", Edge.WRONG, Yards::busy, y -> y.contract(n, 0, 0));
        }
        Check.isThrown("1 of 0 bytes", Edge.WRONG, () -> sellerYard().contract(1, 0, 0));
        Check.isThrown("401 of 400 bytes", Edge.WRONG, () -> fullTape().contract(401, 0, 0));
        Check.is("40 of 40 bytes", Yards.busy().contract(40, 0, 0), 3);
    }

    private static void daysOfContract() {
        Edge.holds("Promise 6", "or the DAY not 0 to 10,000");
        for (int day : new int[] {-1, 10001, Edge.LEAST, Edge.MOST}) {
            Edge.throwsOnly("contract(40, 0, " + day + ")", Edge.WRONG, Yards::busy, y -> y.contract(40, 0, day));
        }
        ScrapYard yard = sellerYard();
        Check.is("DAY 10,000", yard.contract(0, 0, 10000), 0);
        Check.is("not in force on 9,999", yard.force(0, 9999), -1);
        Check.is("in force on 10,000", yard.force(0, 10000), 0);
        Check.is("DAY 0", yard.contract(0, 0, 0), 1);
        Check.is("in force on 0", yard.force(0, 0), 1);
        yard.day(5);
        Check.is("a DAY that has gone by", yard.contract(0, 0, 4), 2);
        Check.is("in force on 4", yard.force(0, 4), 2);
    }

    private static void twentyInAll() {
        Edge.holds("Promise 6", "IllegalStateException: there are 20.");
        Check.is("the 20th", Yards.withContracts(19).contract(0, 0, 0), 19);
        Edge.throwsOnly("the 21st", Edge.FULL, TapeEdgesTest::twentyAndATape, y -> y.contract(20, 0, 0));
        Edge.throwsOnly("of the other SELLER", Edge.FULL, TapeEdgesTest::twentyAndATape, y -> y.contract(0, 1, 10000));
        Edge.throwsOnly("a text that is none", Edge.FULL, TapeEdgesTest::twentyAndATape, y -> y.contract(3, 0, 0));
        Edge.holds("Terms 2", "20 in all.");
        Check.is("count(2)", twentyAndATape().count(2), 20);
        Check.is("the TAPE", twentyAndATape().count(8), 20);
    }

    private static ScrapYard twentyAndATape() {
        ScrapYard yard = Yards.withContracts(20);
        Check.feedText(yard, "else pay 1;         ");
        return yard;
    }

    private static void twentyAfterWrongTexts() {
        Edge.holds("Terms 2", "20 in all.");
        ScrapYard yard = Yards.withContracts(19);
        for (int i = 0; i < 3; i++) {
            Check.is("a text that is none", Check.contract(yard, "else", 0, 0), -6);
        }
        Check.is("the 20th", yard.contract(0, 1, 0), 19);
        Check.isThrown("the 21st", Edge.FULL, () -> yard.contract(0, 1, 0));
    }

    private static void wrongAheadOfTwenty() {
        Edge.holds("Promise 6", "NoSuchElementException: no such SELLER; IllegalArgumentException: n is not 0 to the"
                + " TAPE's bytes, or the DAY not 0 to 10,000; IllegalStateException: there are 20.");
        ScrapYard yard = twentyAndATape();
        Check.isThrown("no such SELLER", Edge.MISSING, () -> yard.contract(20, 2, 0));
        Check.isThrown("n is -1", Edge.WRONG, () -> yard.contract(-1, 0, 0));
        Check.isThrown("n is 21", Edge.WRONG, () -> yard.contract(21, 0, 0));
        Check.isThrown("the DAY is -1", Edge.WRONG, () -> yard.contract(20, 0, -1));
        Check.isThrown("the DAY is 10,001", Edge.WRONG, () -> yard.contract(20, 0, 10001));
        Check.isThrown("nothing wrong", Edge.FULL, () -> yard.contract(20, 0, 0));
    }

    private static void sellersOfForce() {
        Edge.holds("Promise 7", "NoSuchElementException likewise.");
        for (int seller : new int[] {-1, 2, Edge.LEAST, Edge.MOST}) {
            Edge.throwsOnly("force(" + seller + ", 2)", Edge.MISSING, Yards::busy, y -> y.force(seller, 2));
        }
        Check.is("the first", Yards.busy().force(0, 2), 0);
        Check.is("the last", Yards.busy().force(1, 2), 1);
    }

    private static void noneInForce() {
        Edge.holds("Promise 7", "The CONTRACT of a SELLER in force on a DAY; NONE.");
        ScrapYard yard = Yards.withSellers(2);
        Check.is("of no CONTRACTS", yard.force(0, 0), -1);
        Check.is("on the last DAY", yard.force(0, 10000), -1);
        yard.contract(0, 0, 7);
        Check.is("a DAY ahead", yard.force(0, 6), -1);
        Check.is("on its DAY", yard.force(0, 7), 0);
        Check.is("a DAY later", yard.force(0, 8), 0);
        Check.is("for ever", yard.force(0, Edge.MOST), 0);
        Check.is("a DAY below 0", yard.force(0, -1), -1);
        Check.is("the least number", yard.force(0, Edge.LEAST), -1);
        Check.is("of the other SELLER", yard.force(1, 7), -1);
    }

    private static void greatestDay() {
        Edge.holds("Terms 2", "on a DAY the one from the greatest DAY that is not later");
        ScrapYard yard = sellerYard();
        yard.contract(0, 0, 20);
        yard.contract(0, 0, 10);
        yard.contract(0, 0, 30);
        int[][] due = {{9, -1}, {10, 1}, {19, 1}, {20, 0}, {29, 0}, {30, 2}, {31, 2}, {10000, 2}};
        for (int[] one : due) {
            Check.is("force(0, " + one[0] + ")", yard.force(0, one[0]), one[1]);
        }
    }

    private static void toldLast() {
        Edge.holds("Terms 2", "of these the one told last");
        ScrapYard yard = sellerYard();
        yard.contract(0, 0, 10);
        yard.contract(0, 0, 10);
        yard.contract(0, 0, 9);
        Check.is("of the same DAY", yard.force(0, 10), 1);
        Check.is("of an earlier one", yard.force(0, 9), 2);
        yard.contract(0, 0, 10);
        Check.is("told last of all", yard.force(0, 10), 3);
        Check.contract(yard, "x", 0, 10);
        Check.is("a text that is none", yard.force(0, 10), 3);
    }

    private static void inForceOfEachSeller() {
        Edge.holds("Terms 2", "texts of a SELLER in force from a DAY on");
        ScrapYard yard = Yards.withSellers(2);
        yard.contract(0, 1, 5);
        yard.contract(0, 0, 6);
        yard.contract(0, 1, 7);
        Check.is("of the first on 5", yard.force(0, 5), -1);
        Check.is("of the first on 7", yard.force(0, 7), 1);
        Check.is("of the other on 5", yard.force(1, 5), 0);
        Check.is("of the other on 6", yard.force(1, 6), 0);
        Check.is("of the other on 7", yard.force(1, 7), 2);
    }
}
