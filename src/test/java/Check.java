/** What the project's tests share: telling wrong answers, and contracts fed as texts. */
final class Check {
    private static int wrong = 0;
    /** Stands ahead of each fault: the sentence that the checks hold, where a test names one. */
    private static String held = "";

    private Check() {
    }

    interface Call {
        long answer();
    }

    static void is(String call, long got, long due) {
        if (got != due) {
            tell(call + " answered " + got + ", due is " + due);
        }
    }

    static void isThrown(String call, Class<? extends RuntimeException> due, Call made) {
        try {
            tell(call + " answered " + made.answer() + ", due is " + due.getSimpleName());
        } catch (RuntimeException got) {
            if (got.getClass() != due) {
                tell(call + " threw " + got + ", due is " + due.getSimpleName());
            }
        }
    }

    static void of(String sentence) {
        held = sentence;
    }

    static void tell(String fault) {
        wrong++;
        System.out.println(held + fault);
    }

    /** Ends the test's program, with exit code 1 if an answer was wrong. */
    static void end() {
        if (wrong != 0) {
            System.out.println(wrong + " answers are not as due");
            System.exit(1);
        }
    }

    /** Feeds a text, filled up with bytes 0 to a multiple of twenty. */
    static void feedText(ScrapYard yard, String text) {
        for (int at = 0; at < text.length(); at += 20) {
            int[] row = new int[5];
            for (int i = 0; i < 20; i++) {
                int sign = at + i < text.length() ? text.charAt(at + i) : 0;
                row[i / 4] = row[i / 4] << 8 | sign;
            }
            yard.feed(row[0], row[1], row[2], row[3], row[4]);
        }
    }

    static int contract(ScrapYard yard, String text, int seller, int day) {
        feedText(yard, text);
        return yard.contract(text.length(), seller, day);
    }

    /** A yard with one SELLER whose CONTRACT takes all for a pay, and so many KINDS. */
    static ScrapYard openYard(int kinds, int pay) {
        ScrapYard yard = new ScrapYard();
        for (int i = 0; i < kinds; i++) {
            yard.kind();
        }
        yard.seller();
        contract(yard, "else pay " + pay + ";", 0, 0);
        return yard;
    }
}
