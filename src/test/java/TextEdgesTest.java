/** Edges of ==== 2. (promises 6, 9 and 10): what is a text, its PLACE if it is none, and GRADES by what is SURE. */
public final class TextEdgesTest {
    private static final String GRADE = "grade cu<1 pay 1;";
    private static final String[] METALS = {"cu", "ni", "cr", "sn", "ph"};
    /** A text with each of the things that can stand in one. */
    private static final String[] TOKENS = {
        "grade", " cu", "<", "12", ",", "ni", ">", "3", " pay", " 4", ";", " else", " pay", " 56", ";",
    };

    public static void main(String[] args) {
        gradesFromNoneOn();
        perhapsElse();
        oneTestOrMore();
        metalsOfTests();
        signsOfTests();
        digitsOfTests();
        digitsOfPays();
        valuesOfNumbers();
        smallLetters();
        blanksAhead();
        otherBytesAhead();
        blanksInside();
        bytesAtTheEnd();
        twelveGrades();
        thirteenthGrade();
        wordsThatCannot();
        endsOfTexts();
        sureBelow();
        sureAbove();
        firstSureGrade();
        allTestsSure();
        gradeOfElse();
        refusedWithoutElse();
        Check.end();
    }

    private static int told(String text) {
        return Check.contract(Yards.withSellers(1), text, 0, 0);
    }

    private static void isText(String text) {
        Check.is("'" + text + "'", told(text), 0);
    }

    private static void placeIs(String text, int place) {
        Check.is("'" + text + "'", told(text), -2 - place);
    }

    private static void gradesFromNoneOn() {
        Edge.holds("Terms 2", "TEXT: { \"grade\" TEST { \",\" TEST } \"pay\" N \";\" }");
        isText("");
        isText(GRADE);
        isText(GRADE + GRADE);
        placeIs("cu<1 pay 1;", 0);
        placeIs("pay 1;", 0);
        placeIs(";", 0);
        placeIs("grade cu<1 1;", 11);
        placeIs("grade cu<1 pay;", 14);
        placeIs("grade cu<1 pay 1 " + GRADE, 17);
        placeIs(GRADE + ";", 17);
        placeIs(GRADE + "1", 17);
    }

    private static void perhapsElse() {
        Edge.holds("Terms 2", "and perhaps \"else\" \"pay\" N \";\" at the end");
        isText("else pay 1;");
        isText(GRADE + "else pay 1;");
        placeIs("else pay 1;else pay 1;", 11);
        placeIs("else pay 1;" + GRADE, 11);
        placeIs("else cu<1 pay 1;", 5);
        placeIs("else 1;", 5);
        placeIs("else pay;", 8);
        placeIs("else pay 1", 10);
        placeIs("else pay 1,", 10);
        placeIs("else;", 4);
        placeIs("else pay 1;;", 11);
    }

    private static void oneTestOrMore() {
        Edge.holds("Terms 2", "\"grade\" TEST { \",\" TEST } \"pay\"");
        placeIs("grade pay 1;", 6);
        placeIs("grade ,cu<1 pay 1;", 6);
        isText("grade cu<1 pay 1;");
        isText("grade cu<1,cu<1 pay 1;");
        isText("grade cu<1,cu>0,ni<1,cr>2 pay 1;");
        placeIs("grade cu<1,pay 1;", 11);
        placeIs("grade cu<1,,ni<1 pay 1;", 11);
        placeIs("grade cu<1 ni<1 pay 1;", 11);
        placeIs("grade cu<1;ni<1 pay 1;", 10);
        isText("grade cu<1" + ",ni>2".repeat(76) + " pay 7;");
    }

    private static void metalsOfTests() {
        Edge.holds("Terms 2", "TEST: cu, ni, cr, sn or ph");
        for (String metal : METALS) {
            isText("grade " + metal + "<1 pay 1;");
            placeIs("grade " + metal + metal + "<1 pay 1;", 6);
            placeIs("grade " + metal.charAt(0) + "<1 pay 1;", 6);
            placeIs("grade " + metal.charAt(1) + "<1 pay 1;", 6);
            placeIs("grade cu<1," + metal.toUpperCase() + "<1 pay 1;", 11);
        }
        placeIs("grade fe<1 pay 1;", 6);
        placeIs("grade <1 pay 1;", 6);
        placeIs("grade 0<1 pay 1;", 6);
        placeIs("grade grade<1 pay 1;", 6);
        placeIs("grade cU<1 pay 1;", 6);
        placeIs("grade cu<1,c", 11);
    }

    private static void signsOfTests() {
        Edge.holds("Terms 2", "one of < and >, N.");
        isText("grade cu<1 pay 1;");
        isText("grade cu>1 pay 1;");
        for (char sign : new char[] {'=', ';', ',', '-', '?', '1', '!'}) {
            placeIs("grade cu" + sign + "1 pay 1;", 8);
        }
        placeIs("grade cu<=1 pay 1;", 9);
        placeIs("grade cu<>1 pay 1;", 9);
        placeIs("grade cu><1 pay 1;", 9);
        placeIs("grade cu 1 pay 1;", 9);
        placeIs("grade cu pay 1;", 9);
    }

    private static void digitsOfTests() {
        Edge.holds("Terms 2", "N: a NUMBER of one to five digits (as many as stand there; a sixth can't).");
        placeIs("grade cu< pay 1;", 10);
        String digits = "9999999999";
        for (int n = 1; n <= 5; n++) {
            isText("grade cu<" + digits.substring(0, n) + " pay 1;");
            isText("grade cu<" + "0".repeat(n) + ",ni>0pay 1;");
        }
        for (int n = 6; n <= 10; n++) {
            placeIs("grade cu<" + digits.substring(0, n) + " pay 1;", 14);
            placeIs("grade cu< " + "0".repeat(n) + " pay 1;", 15);
        }
        placeIs("grade cu<12345 6 pay 1;", 15);
        placeIs("grade cu<1 2 pay 1;", 11);
        placeIs("grade cu<-1 pay 1;", 9);
        placeIs("grade cu<+1 pay 1;", 9);
        placeIs("grade cu<1.5 pay 1;", 10);
        placeIs("grade cu<" + (char) ('0' - 1) + " pay 1;", 9);
        placeIs("grade cu<" + (char) ('9' + 1) + " pay 1;", 9);
        placeIs("grade cu<1" + (char) ('0' - 1) + " pay 1;", 10);
        placeIs("grade cu<1" + (char) ('9' + 1) + " pay 1;", 10);
    }

    private static void digitsOfPays() {
        Edge.holds("Terms 2", "N: a NUMBER of one to five digits (as many as stand there; a sixth can't).");
        String[] starts = {"else pay ", "grade cu<1 pay "};
        for (String start : starts) {
            placeIs(start + ";", start.length());
            for (int n = 1; n <= 5; n++) {
                isText(start + "98765".substring(0, n) + ";");
                isText(start + "00000".substring(0, n) + " ;");
            }
            placeIs(start + "123456;", start.length() + 5);
            placeIs(start + "000000;", start.length() + 5);
            placeIs(start + "1234567;", start.length() + 5);
            placeIs(start + "12345 6;", start.length() + 6);
            placeIs(start + "123456", start.length() + 5);
        }
    }

    private static void valuesOfNumbers() {
        Edge.holds("Terms 2", "N: a NUMBER of one to five digits (as many as stand there; a sixth can't).");
        String[] texts = {"0", "9", "10", "00000", "00012", "12345", "99999"};
        int[] due = {0, 9, 10, 0, 12, 12345, 99999};
        for (int i = 0; i < texts.length; i++) {
            ScrapYard yard = Yards.withSellers(1);
            Check.contract(yard, "grade cu<1 pay 7; else pay " + texts[i] + ";", 0, 0);
            yard.load(0, 0, 0, 50);
            Check.is("PAY of else " + texts[i], yard.told(0, 5), due[i]);
            Check.is("money", yard.money(0), 50L * due[i]);
            yard = Yards.withSellers(1);
            Check.contract(yard, "grade cu<99999 pay " + texts[i] + "; else pay 7;", 0, 0);
            yard.load(0, 0, 0, 1);
            Check.is("PAY of a GRADE " + texts[i], yard.told(0, 5), due[i]);
        }
    }

    private static void smallLetters() {
        Edge.holds("Terms 2", "WORDS are small letters, as many as stand there");
        String[] starts = {"grade", "else", "grade cu", "grade cu<1 pay", "else pay"};
        int[] words = {0, 0, 6, 11, 5};
        for (int i = 0; i < starts.length; i++) {
            placeIs(starts[i] + "a 1;", words[i]);
            placeIs(starts[i] + "z 1;", words[i]);
            placeIs(starts[i] + (char) ('a' - 1) + " 1;", starts[i].length());
            placeIs(starts[i] + (char) ('z' + 1) + " 1;", starts[i].length());
            placeIs(starts[i] + "A 1;", starts[i].length());
            placeIs(starts[i] + (char) ('a' + 128) + " 1;", starts[i].length());
        }
        placeIs("gradecu<1 pay 1;", 0);
        placeIs("elsepay 1;", 0);
        placeIs("Grade cu<1 pay 1;", 0);
        placeIs("gRADE cu<1 pay 1;", 0);
        placeIs("ELSE pay 1;", 0);
        isText("grade cu<1pay1;else pay1;");
    }

    private static void blanksAhead() {
        Edge.holds("Terms 2", "blanks (byte 32) may stand ahead of all these, and at the end");
        for (int blanks = 1; blanks <= 3; blanks++) {
            StringBuilder text = new StringBuilder();
            for (String token : TOKENS) {
                text.append(" ".repeat(blanks)).append(token);
            }
            isText(text.toString());
            isText(text + " ".repeat(blanks));
        }
        isText(" ");
        isText(" ".repeat(400));
        isText(String.join("", TOKENS));
        isText(String.join("", TOKENS) + " ");
    }

    private static void otherBytesAhead() {
        Edge.holds("Terms 2", "blanks (byte 32) may stand ahead of all these, and at the end");
        for (char sign : new char[] {0, 9, 10, 13, 31, 33, 160, 255}) {
            StringBuilder text = new StringBuilder();
            for (int i = 0; i < TOKENS.length; i++) {
                placeIs(text + "" + sign + TOKENS[i], text.length());
                placeIs(text + " " + sign + TOKENS[i], text.length() + 1);
                text.append(TOKENS[i]);
            }
        }
    }

    private static void blanksInside() {
        Edge.holds("Terms 2", "blanks (byte 32) may stand ahead of all these, and at the end");
        placeIs("g rade cu<1 pay 1;", 0);
        placeIs("grad e cu<1 pay 1;", 0);
        placeIs("grade c u<1 pay 1;", 6);
        placeIs("grade cu<1 p ay 1;", 11);
        placeIs("grade cu<1 pay 1 1;", 17);
        placeIs("els e pay 1;", 0);
    }

    private static void bytesAtTheEnd() {
        Edge.holds("Terms 2", "and at the end");
        for (int sign = 0; sign < 256; sign++) {
            if (sign == 32) {
                isText("else pay 1;" + (char) sign);
            } else {
                placeIs("else pay 1;" + (char) sign, 11);
                placeIs("else pay 1;  " + (char) sign + " ", 13);
            }
        }
    }

    private static void twelveGrades() {
        Edge.holds("Terms 2", "At most 12 GRADES.");
        isText(GRADE.repeat(11));
        isText(GRADE.repeat(12));
        isText(GRADE.repeat(12) + "  ");
        isText(GRADE.repeat(12) + " else pay 1;");
        ScrapYard yard = Yards.withSellers(1);
        Check.contract(yard, GRADE.repeat(11) + "grade cu>0 pay 8; else pay 9;", 0, 0);
        yard.load(0, 0, 0, 1);
        Check.is("else is GRADE 12", yard.told(0, 4), 12);
        Check.is("its PAY", yard.told(0, 5), 9);
        yard.span(0, 0, 1, 1);
        yard.load(0, 0, 0, 1);
        Check.is("the 12th is GRADE 11", yard.told(1, 4), 11);
        Check.is("its PAY", yard.told(1, 5), 8);
    }

    private static void thirteenthGrade() {
        Edge.holds("Terms 2", "a 13th \"grade\": its first byte");
        placeIs(GRADE.repeat(13), 204);
        placeIs(GRADE.repeat(12) + "grade", 204);
        placeIs(GRADE.repeat(12) + "   grade", 207);
        placeIs(GRADE.repeat(12) + " grade x", 205);
        placeIs(GRADE.repeat(14), 204);
        placeIs(GRADE.repeat(11) + GRADE.substring(0, 16), 203);
    }

    private static void wordsThatCannot() {
        Edge.holds("Terms 2", "of the first byte that can't stand there (a WORD that can't");
        placeIs("  gradf cu<1 pay 1;", 2);
        placeIs("  grad", 2);
        placeIs("elsf pay 1;", 0);
        placeIs("cu", 0);
        placeIs("grade  els", 7);
        placeIs("grade cu  pay", 10);
        placeIs("grade cu<  pay", 11);
        placeIs("grade cu<1  else pay 1;", 12);
        placeIs("grade cu<1  pa", 12);
        placeIs("grade cu<1 pay  pay 1;", 16);
        placeIs("grade cu<1 pay 1  pay;", 18);
        placeIs("else  grade", 6);
        placeIs("else pay 1;  pay", 13);
        placeIs("a", 0);
        placeIs("z", 0);
    }

    /** Every beginning of a text: within a WORD its first byte, else the end, is what can't stand there. */
    private static void endsOfTexts() {
        Edge.holds("Terms 2", "the end: its length).");
        String text = String.join("", TOKENS);
        int at = 0;
        boolean mayEnd = true;
        for (String token : TOKENS) {
            int start = at + token.length() - token.trim().length();
            boolean isWord = Character.isLowerCase(text.charAt(start));
            for (int cut = at; cut < at + token.length(); cut++) {
                String beginning = text.substring(0, cut);
                if (mayEnd && cut <= start) {
                    isText(beginning);
                } else {
                    placeIs(beginning, isWord && cut > start ? start : cut);
                    placeIs(beginning + "  ", isWord && cut > start ? start : cut + 2);
                }
            }
            at += token.length();
            mayEnd = token.equals(";");
        }
        isText(text);
    }

    /** What a load of a kind with such a SPAN is answered: 0, or -1 where the one TEST is not SURE. */
    private static void sureIs(boolean sure, int metal, String sign, int n, int[] span) {
        ScrapYard yard = Yards.withSellers(1);
        Check.contract(yard, "grade " + METALS[metal] + sign + n + " pay 1;", 0, 0);
        yard.span(0, metal, span[0], span[1]);
        String test = METALS[metal] + sign + n + " of " + span[0] + " to " + span[1];
        Check.is(test, yard.load(0, 0, 0, 1), sure ? 0 : -1);
    }

    private static void sureBelow() {
        Edge.holds("Terms 2", "< N: the METAL's HIGH is below N");
        for (int metal = 0; metal < 5; metal++) {
            for (int[] span : Edge.SPANS) {
                sureIs(false, metal, "<", span[1], span);
                sureIs(true, metal, "<", span[1] + 1, span);
                sureIs(true, metal, "<", 99999, span);
                sureIs(false, metal, "<", 0, span);
            }
        }
        sureIs(false, 2, "<", 700, new int[] {600, 700});
        sureIs(false, 2, "<", 601, new int[] {600, 700});
        sureIs(true, 2, "<", 701, new int[] {600, 700});
    }

    private static void sureAbove() {
        Edge.holds("Terms 2", "> N: its LOW is above N");
        for (int metal = 0; metal < 5; metal++) {
            for (int[] span : Edge.SPANS) {
                sureIs(false, metal, ">", span[0], span);
                if (span[0] > 0) {
                    sureIs(true, metal, ">", span[0] - 1, span);
                }
                sureIs(false, metal, ">", 10000, span);
                sureIs(false, metal, ">", 99999, span);
            }
        }
        sureIs(false, 2, ">", 600, new int[] {600, 700});
        sureIs(false, 2, ">", 699, new int[] {600, 700});
        sureIs(true, 2, ">", 599, new int[] {600, 700});
    }

    private static void gradeIs(String text, int grade, int pay) {
        ScrapYard yard = Yards.withSellers(1);
        Check.contract(yard, text, 0, 0);
        yard.span(0, 0, 100, 200);
        yard.span(0, 1, 300, 400);
        Check.is("load by " + text, yard.load(0, 0, 0, 2), 0);
        Check.is("GRADE by " + text, yard.told(0, 4), grade);
        Check.is("PAY by " + text, yard.told(0, 5), pay);
        Check.is("money by " + text, yard.money(0), 2L * pay);
    }

    private static void firstSureGrade() {
        Edge.holds("Terms 2", "The GRADE of a LOAD: the first one all of whose TESTS are SURE (0, 1, ..); its PAY (for a ton) is that one's");
        gradeIs("grade cu<201 pay 1; grade cu<202 pay 9;", 0, 1);
        gradeIs("grade cu<200 pay 1; grade cu<202 pay 9;", 1, 9);
        gradeIs("grade cu<200 pay 1; grade cu<201 pay 2; grade cu<202 pay 9; else pay 8;", 1, 2);
        gradeIs("grade cu<201 pay 1; else pay 9;", 0, 1);
        gradeIs("grade cu<201 pay 0; else pay 9;", 0, 0);
    }

    private static void allTestsSure() {
        Edge.holds("Terms 2", "the first one all of whose TESTS are SURE (0, 1, ..)");
        gradeIs("grade cu<201,ni>299 pay 1; else pay 2;", 0, 1);
        gradeIs("grade cu<200,ni>299 pay 1; else pay 2;", 1, 2);
        gradeIs("grade cu<201,ni>300 pay 1; else pay 2;", 1, 2);
        gradeIs("grade ni>300,cu<201 pay 1; else pay 2;", 1, 2);
        gradeIs("grade cu<201,cu>99 pay 1; else pay 2;", 0, 1);
        gradeIs("grade cu<201,cu>100 pay 1; else pay 2;", 1, 2);
        gradeIs("grade cu<201,cu<200 pay 1; else pay 2;", 1, 2);
        gradeIs("grade cu<200,cu<201 pay 1; else pay 2;", 1, 2);
        gradeIs("grade cu>99,cu>100 pay 1; else pay 2;", 1, 2);
        gradeIs("grade cu>100,cu>99 pay 1; else pay 2;", 1, 2);
    }

    private static void gradeOfElse() {
        Edge.holds("Terms 2", "without such a one that of else (GRADE: how many there are)");
        gradeIs("else pay 3;", 0, 3);
        gradeIs("grade cu<1 pay 1; else pay 3;", 1, 3);
        gradeIs("grade cu<1 pay 1; grade cu<1 pay 1; else pay 0;", 2, 0);
        gradeIs(GRADE.repeat(12) + "else pay 3;", 12, 3);
    }

    private static void refusedWithoutElse() {
        Edge.holds("Terms 2", "without that it is REFUSED");
        for (String text : new String[] {"", "grade cu<10000 pay 1;", GRADE.repeat(12)}) {
            ScrapYard yard = Yards.withSellers(1);
            Check.contract(yard, text, 0, 0);
            Check.is("load by '" + text + "'", yard.load(0, 0, 0, 1), -1);
            Check.is("money", yard.money(0), 0);
        }
    }
}
