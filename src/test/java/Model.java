import java.util.ArrayList;
import java.util.Arrays;
import java.util.Collections;
import java.util.List;
import java.util.NoSuchElementException;

/** The document told a second time, as plainly as can be, for comparing with ScrapYard. */
final class Model {
    /** TONS, or one PORTION of a MELT. */
    static final class Part {
        int tons;
        int load;
        int cost;
        int[] low;
        int[] high;

        Part(int tons, int load, int cost, int[] low, int[] high) {
            this.tons = tons;
            this.load = load;
            this.cost = cost;
            this.low = low.clone();
            this.high = high.clone();
        }
    }

    static final class Terms {
        int seller;
        int day;
        /** Rows of METAL, sign, N, grade by grade. */
        List<List<int[]>> grades = new ArrayList<>();
        List<Integer> pays = new ArrayList<>();
        boolean hasElse;
    }

    static final class Come {
        int seller;
        int kind;
        int tons;
        int day;
        int grade;
        int pay;
        Terms terms;
        int[] low = new int[5];
        int[] high = new int[5];
    }

    private static final List<String> METALS = List.of("cu", "ni", "cr", "sn", "ph");

    final List<int[][]> kinds = new ArrayList<>();
    final List<Long> sellers = new ArrayList<>();
    final List<Terms> contracts = new ArrayList<>();
    final List<Come> loads = new ArrayList<>();
    /** Each from the topmost LAYER on. */
    final List<List<Part>> heaps = new ArrayList<>();
    final List<List<Part>> melts = new ArrayList<>();
    final int[][][][] right = new int[8][10][5][];
    final int[][] asked = new int[5][];
    String tape = "";
    int today;

    Model() {
        for (int i = 0; i < 6; i++) {
            heaps.add(new ArrayList<>());
        }
        for (int m = 0; m < 5; m++) {
            asked[m] = new int[] {0, 10000};
        }
    }

    private static void has(boolean fine) {
        if (!fine) {
            throw new NoSuchElementException();
        }
    }

    private static void fits(boolean fine) {
        if (!fine) {
            throw new IllegalArgumentException();
        }
    }

    private static boolean within(int x, int first, int last) {
        return first <= x && x <= last;
    }

    private static void fitsSpan(int metal, int low, int high) {
        fits(within(metal, 0, 4));
        fits(within(low, 0, 10000) && within(high, 0, 10000) && low <= high);
    }

    int kind() {
        if (kinds.size() == 10) {
            return -1;
        }
        int[][] spans = new int[5][];
        for (int m = 0; m < 5; m++) {
            spans[m] = new int[] {0, 10000};
        }
        kinds.add(spans);
        return kinds.size() - 1;
    }

    int span(int kind, int metal, int low, int high) {
        has(within(kind, 0, kinds.size() - 1));
        fitsSpan(metal, low, high);
        kinds.get(kind)[metal] = new int[] {low, high};
        return 1;
    }

    int seller() {
        if (sellers.size() == 8) {
            return -1;
        }
        sellers.add(0L);
        return sellers.size() - 1;
    }

    int feed(int a, int b, int c, int d, int e) {
        if (tape.length() > 380) {
            return -1;
        }
        for (int four : new int[] {a, b, c, d, e}) {
            tape += (char) (four >> 24 & 255);
            tape += (char) (four >> 16 & 255);
            tape += (char) (four >> 8 & 255);
            tape += (char) (four & 255);
        }
        return tape.length();
    }

    int contract(int n, int seller, int day) {
        has(within(seller, 0, sellers.size() - 1));
        fits(within(n, 0, tape.length()) && within(day, 0, 10000));
        if (contracts.size() == 20) {
            throw new IllegalStateException();
        }
        String text = tape.substring(0, n);
        tape = "";
        Terms terms = new Terms();
        terms.seller = seller;
        terms.day = day;
        int place = placeOf(text, terms);
        if (place >= 0) {
            return -2 - place;
        }
        contracts.add(terms);
        return contracts.size() - 1;
    }

    private static boolean isLetter(char sign) {
        return sign >= 'a' && sign <= 'z';
    }

    private static boolean isDigit(char sign) {
        return sign >= '0' && sign <= '9';
    }

    /** Cuts the text into tokens first, then walks through states; -1: it is a text. */
    private static int placeOf(String text, Terms terms) {
        List<String> tokens = new ArrayList<>();
        List<Integer> starts = new ArrayList<>();
        for (int i = 0; i < text.length(); ) {
            int j = i + 1;
            char first = text.charAt(i);
            while (j < text.length() && (isLetter(first) && isLetter(text.charAt(j))
                    || isDigit(first) && isDigit(text.charAt(j)))) {
                j++;
            }
            if (first != ' ') {
                tokens.add(text.substring(i, j));
                starts.add(i);
            }
            i = j;
        }
        tokens.add("");
        starts.add(text.length());
        String state = "start";
        int metal = 0;
        String sign = "";
        for (int i = 0; i < tokens.size(); i++) {
            String token = tokens.get(i);
            String next = null;
            if (state.equals("start") && token.equals("grade") && terms.grades.size() < 12) {
                terms.grades.add(new ArrayList<>());
                next = "metal";
            } else if (state.equals("start") && token.equals("else")) {
                terms.hasElse = true;
                next = "pay";
            } else if (state.equals("metal") && METALS.contains(token)) {
                metal = METALS.indexOf(token);
                next = "sign";
            } else if (state.equals("sign") && (token.equals("<") || token.equals(">"))) {
                sign = token;
                next = "limit";
            } else if ((state.equals("limit") || state.equals("sum")) && token.matches("[0-9]+")) {
                if (token.length() > 5) {
                    return starts.get(i) + 5;
                }
                int number = Integer.parseInt(token);
                if (state.equals("limit")) {
                    terms.grades.get(terms.grades.size() - 1).add(new int[] {metal, sign.charAt(0), number});
                    next = "more";
                } else {
                    terms.pays.add(number);
                    next = "end";
                }
            } else if (state.equals("more") && token.equals(",")) {
                next = "metal";
            } else if ((state.equals("more") || state.equals("pay")) && token.equals("pay")) {
                next = "sum";
            } else if (state.equals("end") && token.equals(";")) {
                next = terms.hasElse ? "over" : "start";
            } else if ((state.equals("start") || state.equals("over")) && token.isEmpty()) {
                return -1;
            }
            if (next == null) {
                return starts.get(i);
            }
            state = next;
        }
        throw new AssertionError();
    }

    int force(int seller, int day) {
        has(within(seller, 0, sellers.size() - 1));
        for (int d = Math.min(day, 10000); d >= 0; d--) {
            for (int i = contracts.size() - 1; i >= 0; i--) {
                if (contracts.get(i).seller == seller && contracts.get(i).day == d) {
                    return i;
                }
            }
        }
        return -1;
    }

    private int[] usualSpan(int seller, int kind, int metal) {
        int[] put = right[seller][kind][metal];
        return put != null ? put : kinds.get(kind)[metal];
    }

    int usual(int seller, int kind, int metal, int side) {
        has(within(seller, 0, sellers.size() - 1) && within(kind, 0, kinds.size() - 1));
        fits(within(metal, 0, 4) && within(side, 0, 1));
        return usualSpan(seller, kind, metal)[side];
    }

    private static void grade(Come load) {
        Terms terms = load.terms;
        for (int g = 0; g < terms.grades.size(); g++) {
            boolean sure = true;
            for (int[] test : terms.grades.get(g)) {
                sure &= test[1] == '<' ? load.high[test[0]] < test[2] : load.low[test[0]] > test[2];
            }
            if (sure) {
                load.grade = g;
                load.pay = terms.pays.get(g);
                return;
            }
        }
        load.grade = terms.hasElse ? terms.grades.size() : -1;
        load.pay = terms.hasElse ? terms.pays.get(terms.grades.size()) : 0;
    }

    int load(int seller, int kind, int heap, int tons) {
        has(within(seller, 0, sellers.size() - 1) && within(kind, 0, kinds.size() - 1));
        fits(within(heap, 0, 5) && within(tons, 1, 50));
        if (loads.size() == 100) {
            return -2;
        }
        if (count(4) == 40) {
            return -3;
        }
        if (force(seller, today) < 0) {
            return -4;
        }
        Come load = new Come();
        load.seller = seller;
        load.kind = kind;
        load.tons = tons;
        load.day = today;
        load.terms = contracts.get(force(seller, today));
        for (int m = 0; m < 5; m++) {
            load.low[m] = usualSpan(seller, kind, m)[0];
            load.high[m] = usualSpan(seller, kind, m)[1];
        }
        grade(load);
        if (load.grade < 0) {
            return -1;
        }
        loads.add(load);
        pay(seller, (long) tons * load.pay);
        heaps.get(heap).add(0, new Part(tons, loads.size() - 1, load.pay, load.low, load.high));
        return loads.size() - 1;
    }

    private void pay(int seller, long sum) {
        sellers.set(seller, sellers.get(seller) + sum);
    }

    private static int side(int[] low, int[] high, int what) {
        fits(within(what, 0, 9));
        return what % 2 == 0 ? low[what / 2] : high[what / 2];
    }

    int told(int load, int what) {
        has(within(load, 0, loads.size() - 1));
        Come of = loads.get(load);
        int[] first = {of.seller, of.kind, of.tons, of.day, of.grade, of.pay};
        return within(what, 0, 5) ? first[what] : side(of.low, of.high, what < 0 ? -1 : what - 6);
    }

    int sample(int load, int metal, int low, int high) {
        has(within(load, 0, loads.size() - 1));
        fitsSpan(metal, low, high);
        Come of = loads.get(load);
        if (low > of.high[metal] || high < of.low[metal]) {
            return 0;
        }
        of.low[metal] = Math.max(low, of.low[metal]);
        of.high[metal] = Math.min(high, of.high[metal]);
        for (List<Part> heap : heaps) {
            for (Part part : heap) {
                if (part.load == load) {
                    part.low[metal] = of.low[metal];
                    part.high[metal] = of.high[metal];
                }
            }
        }
        pay(of.seller, -(long) of.tons * of.pay);
        grade(of);
        pay(of.seller, (long) of.tons * of.pay);
        return 1;
    }

    private static int sumTons(List<Part> parts) {
        return parts.stream().mapToInt(part -> part.tons).sum();
    }

    int tons(int heap) {
        fits(within(heap, 0, 5));
        return sumTons(heaps.get(heap));
    }

    int layers(int heap) {
        fits(within(heap, 0, 5));
        return heaps.get(heap).size();
    }

    int layer(int heap, int k, int what) {
        fits(within(heap, 0, 5));
        has(within(k, 0, heaps.get(heap).size() - 1));
        Part of = heaps.get(heap).get(k);
        int[] first = {of.tons, of.load, of.cost};
        return within(what, 0, 2) ? first[what] : side(of.low, of.high, what < 0 ? -1 : what - 3);
    }

    /** What a heap gives, in the order in which it is given; the heap itself stays. */
    private static List<Part> given(List<Part> heap, int tons) {
        List<Part> out = new ArrayList<>();
        int left = tons;
        for (Part part : heap) {
            int now = Math.min(left, part.tons);
            if (now > 0) {
                out.add(new Part(now, part.load, part.cost, part.low, part.high));
            }
            left -= now;
        }
        return out;
    }

    /** What stays on a heap. */
    private static List<Part> rest(List<Part> heap, int tons) {
        List<Part> out = new ArrayList<>();
        int left = tons;
        for (Part part : heap) {
            int now = Math.min(left, part.tons);
            if (now < part.tons) {
                out.add(new Part(part.tons - now, part.load, part.cost, part.low, part.high));
            }
            left -= now;
        }
        return out;
    }

    int move(int from, int to, int tons) {
        fits(within(from, 0, 5) && within(to, 0, 5) && from != to && tons >= 1);
        if (tons(from) < tons) {
            return 0;
        }
        List<Part> rest = rest(heaps.get(from), tons);
        List<Part> given = given(heaps.get(from), tons);
        if (count(4) - layers(from) + rest.size() + given.size() > 40) {
            return -3;
        }
        heaps.set(from, rest);
        Collections.reverse(given);
        given.addAll(heaps.get(to));
        heaps.set(to, given);
        return 1;
    }

    int mix(int heap) {
        fits(within(heap, 0, 5));
        List<Part> parts = heaps.get(heap);
        if (parts.size() > 1) {
            long all = sumTons(parts);
            long cost = 0;
            long[] low = new long[5];
            long[] high = new long[5];
            for (Part part : parts) {
                cost += (long) part.tons * part.cost;
                for (int m = 0; m < 5; m++) {
                    low[m] += (long) part.tons * part.low[m];
                    high[m] += (long) part.tons * part.high[m];
                }
            }
            Part one = new Part((int) all, -1, (int) ((cost + all - 1) / all), new int[5], new int[5]);
            for (int m = 0; m < 5; m++) {
                one.low[m] = (int) (low[m] / all);
                one.high[m] = (int) ((high[m] + all - 1) / all);
            }
            heaps.set(heap, new ArrayList<>(List.of(one)));
        }
        return parts.size();
    }

    int asked(int metal, int low, int high) {
        fitsSpan(metal, low, high);
        asked[metal] = new int[] {low, high};
        return 1;
    }

    private int[] bestTons;
    private long bestCost;

    /** Tries every charge, the first ones by the TONS of HEAP 0, then of HEAP 1 .. first. */
    private void tryAll(int heap, int left, int tons, int[] tried, long[] sums) {
        if (heap == 6) {
            boolean good = left == 0;
            for (int m = 0; good && m < 5; m++) {
                good = sums[1 + m] >= (long) asked[m][0] * tons && sums[6 + m] <= (long) asked[m][1] * tons;
            }
            if (good && (bestTons == null || sums[0] < bestCost)) {
                bestTons = tried.clone();
                bestCost = sums[0];
            }
            return;
        }
        long[] with = sums.clone();
        int taken = 0;
        tried[heap] = 0;
        tryAll(heap + 1, left, tons, tried, with);
        for (Part part : heaps.get(heap)) {
            for (int i = 0; i < part.tons && taken < left; i++) {
                taken++;
                with[0] += part.cost;
                for (int m = 0; m < 5; m++) {
                    with[1 + m] += part.low[m];
                    with[6 + m] += part.high[m];
                }
                tried[heap] = taken;
                tryAll(heap + 1, left - taken, tons, tried, with);
            }
        }
    }

    private void findBest(int tons) {
        fits(within(tons, 1, 20));
        bestTons = null;
        tryAll(0, tons, tons, new int[6], new long[11]);
    }

    int best(int tons) {
        findBest(tons);
        return bestTons == null ? -1 : (int) bestCost;
    }

    int charge(int tons, int heap) {
        fits(within(heap, 0, 5));
        findBest(tons);
        return bestTons == null ? -1 : bestTons[heap];
    }

    int melt(int tons) {
        findBest(tons);
        if (bestTons == null) {
            return -1;
        }
        if (melts.size() == 30) {
            return -2;
        }
        List<Part> portions = new ArrayList<>();
        for (int h = 0; h < 6; h++) {
            portions.addAll(given(heaps.get(h), bestTons[h]));
            heaps.set(h, rest(heaps.get(h), bestTons[h]));
        }
        melts.add(portions);
        return melts.size() - 1;
    }

    int portions(int melt) {
        has(within(melt, 0, melts.size() - 1));
        return melts.get(melt).size();
    }

    int portion(int melt, int k, int what) {
        has(within(melt, 0, melts.size() - 1));
        has(within(k, 0, melts.get(melt).size() - 1));
        Part of = melts.get(melt).get(k);
        return what == 0 ? of.tons : what == 1 ? of.load : side(of.low, of.high, what < 0 ? -1 : what - 2);
    }

    /** The whole number at x / by or next above it. */
    private static int up(int x, int by) {
        int q = -1000000;
        while (q * by < x) {
            q += q + 1000 < x / by ? 1000 : 1;
        }
        return q;
    }

    int prove(int melt, int metal, int low, int high) {
        has(within(melt, 0, melts.size() - 1));
        fitsSpan(metal, low, high);
        List<Part> parts = melts.get(melt);
        int all = sumTons(parts);
        int[][] found = new int[parts.size()][];
        for (int i = 0; i < parts.size(); i++) {
            int least = all * low;
            int greatest = all * high;
            for (int j = 0; j < parts.size(); j++) {
                least -= j == i ? 0 : parts.get(j).tons * parts.get(j).high[metal];
                greatest -= j == i ? 0 : parts.get(j).tons * parts.get(j).low[metal];
            }
            int tons = parts.get(i).tons;
            int from = Math.max(parts.get(i).low[metal], up(least, tons));
            int to = Math.min(parts.get(i).high[metal], -up(-greatest, tons));
            if (from > to) {
                return 0;
            }
            found[i] = new int[] {from, to};
        }
        for (int i = 0; i < parts.size(); i++) {
            Part part = parts.get(i);
            part.low[metal] = found[i][0];
            part.high[metal] = found[i][1];
            if (part.load >= 0) {
                Come of = loads.get(part.load);
                int[] was = usualSpan(of.seller, of.kind, metal);
                int newLow = (3 * was[0] + part.low[metal]) / 4;
                int newHigh = (3 * was[1] + part.high[metal] + 3) / 4;
                right[of.seller][of.kind][metal] = new int[] {newLow, newHigh};
            }
        }
        return 1;
    }

    long money(int seller) {
        has(within(seller, 0, sellers.size() - 1));
        return sellers.get(seller);
    }

    int day(int days) {
        fits(within(days, 0, 1000) && today + days <= 10000);
        today += days;
        return today;
    }

    int count(int what) {
        int layers = 0;
        int lying = 0;
        int melted = 0;
        for (List<Part> heap : heaps) {
            layers += heap.size();
            lying += sumTons(heap);
        }
        for (List<Part> melt : melts) {
            melted += sumTons(melt);
        }
        List<Integer> counts = Arrays.asList(kinds.size(), sellers.size(), contracts.size(),
                loads.size(), layers, melts.size(), lying, melted, tape.length());
        return within(what, 0, 8) ? counts.get(what) : -1;
    }
}
