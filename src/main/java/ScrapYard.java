import java.util.ArrayList;
import java.util.NoSuchElementException;

/**
 * A scrap yard before a furnace: loads whose make-up is known between bounds, heaps of layers,
 * charges of least cost, melts that prove, and contracts as texts. Words in capitals are the
 * document's terms.
 */
public final class ScrapYard {
    public static final int NONE = -1;

    private static final int METALS = 5;
    /** A LOW and a HIGH of each METAL. */
    private static final int SIDES = 2 * METALS;
    private static final int WHOLE = 10000;
    private static final int LAST_DAY = 10000;
    private static final int MOST_DAYS = 1000;
    private static final int MOST_KINDS = 10;
    private static final int MOST_SELLERS = 8;
    private static final int MOST_CONTRACTS = 20;
    private static final int MOST_GRADES = 12;
    private static final int MOST_DIGITS = 5;
    private static final int MOST_BYTES = 400;
    private static final int BYTES_FED = 20;
    private static final int MOST_LOADS = 100;
    private static final int MOST_LOAD_TONS = 50;
    private static final int HEAPS = 6;
    private static final int MOST_LAYERS = 40;
    private static final int MOST_CHARGE_TONS = 20;
    private static final int MOST_MELTS = 30;

    private final ArrayList<Kind> kinds = new ArrayList<>();
    private final ArrayList<Seller> sellers = new ArrayList<>();
    private final ArrayList<Contract> contracts = new ArrayList<>();
    private final ArrayList<Load> loads = new ArrayList<>();
    private final ArrayList<Melt> melts = new ArrayList<>();
    private final Heap[] heaps = new Heap[HEAPS];
    private final Spans asked = new Spans();
    private final ChargeSearch search = new ChargeSearch();
    private final StringBuilder tape = new StringBuilder();
    private int today = 0;

    public ScrapYard() {
        for (int i = 0; i < HEAPS; i++) {
            heaps[i] = new Heap();
        }
    }

    public int kind() {
        if (kinds.size() >= MOST_KINDS) {
            return -1;
        }
        kinds.add(new Kind(kinds.size()));
        return kinds.size() - 1;
    }

    public int span(int kind, int metal, int low, int high)
            throws NoSuchElementException, IllegalArgumentException {
        Kind of = kindOf(kind);
        needMetal(metal);
        needSpan(low, high);
        of.spans.put(metal, low, high);
        return 1;
    }

    public int seller() {
        if (sellers.size() >= MOST_SELLERS) {
            return -1;
        }
        sellers.add(new Seller(sellers.size()));
        return sellers.size() - 1;
    }

    public int feed(int a, int b, int c, int d, int e) {
        if (tape.length() + BYTES_FED > MOST_BYTES) {
            return NONE;
        }
        putOnTape(a);
        putOnTape(b);
        putOnTape(c);
        putOnTape(d);
        putOnTape(e);
        return tape.length();
    }

    public int contract(int n, int seller, int day)
            throws NoSuchElementException, IllegalArgumentException, IllegalStateException {
        Seller of = sellerOf(seller);
        if (n < 0 || n > tape.length()) {
            throw new IllegalArgumentException("more or fewer bytes than the tape has");
        }
        if (day < 0 || day > LAST_DAY) {
            throw new IllegalArgumentException("no such day");
        }
        if (contracts.size() >= MOST_CONTRACTS) {
            throw new IllegalStateException("there are 20 contracts");
        }
        Contract made = new Contract(contracts.size(), of, day);
        ContractReader reader = new ContractReader(tape.toString().substring(0, n), made);
        tape.setLength(0);
        if (!reader.readsAll()) {
            return -2 - reader.place;
        }
        contracts.add(made);
        return made.number;
    }

    public int force(int seller, int day) throws NoSuchElementException {
        Contract found = inForce(sellerOf(seller), day);
        return found == null ? NONE : found.number;
    }

    public int usual(int seller, int kind, int metal, int side)
            throws NoSuchElementException, IllegalArgumentException {
        Seller of = sellerOf(seller);
        Kind ofKind = kindOf(kind);
        needMetal(metal);
        if (side < 0 || side > 1) {
            throw new IllegalArgumentException("no such side");
        }
        return of.usualPart(ofKind, 2 * metal + side);
    }

    public int load(int seller, int kind, int heap, int tons)
            throws NoSuchElementException, IllegalArgumentException {
        Seller from = sellerOf(seller);
        Kind ofKind = kindOf(kind);
        Heap onto = heapOf(heap);
        if (tons < 1 || tons > MOST_LOAD_TONS) {
            throw new IllegalArgumentException("a load has 1 to 50 tons");
        }
        if (loads.size() >= MOST_LOADS) {
            return -2;
        }
        if (layersInAll() >= MOST_LAYERS) {
            return -3;
        }
        Contract contract = inForce(from, today);
        if (contract == null) {
            return -4;
        }
        Load come = new Load(loads.size(), from, ofKind, tons, today, contract);
        come.gradeAnew();
        if (come.grade == NONE) {
            return -1;
        }
        loads.add(come);
        from.paid += (long) tons * come.pay;
        onto.layers.add(new Layer(tons, come, come.pay, come.spans));
        return come.number;
    }

    public int told(int load, int what) throws NoSuchElementException, IllegalArgumentException {
        Load of = loadOf(load);
        switch (what) {
            case 0:
                return of.seller.number;
            case 1:
                return of.kind.number;
            case 2:
                return of.tons;
            case 3:
                return of.day;
            case 4:
                return of.grade;
            case 5:
                return of.pay;
            default:
                return of.spans.partOrThrow(what, 6);
        }
    }

    public int sample(int load, int metal, int low, int high)
            throws NoSuchElementException, IllegalArgumentException {
        Load of = loadOf(load);
        needMetal(metal);
        needSpan(low, high);
        if (!of.spans.hasCommon(metal, low, high)) {
            return 0;
        }
        of.spans.narrow(metal, low, high);
        for (int i = 0; i < HEAPS; i++) {
            heaps[i].narrowLayersOf(of, metal, low, high);
        }
        int before = of.pay;
        of.gradeAnew();
        of.seller.paid += (long) of.tons * (of.pay - before);
        return 1;
    }

    public int tons(int heap) throws IllegalArgumentException {
        return tonsOf(heapOf(heap).layers);
    }

    public int layers(int heap) throws IllegalArgumentException {
        return heapOf(heap).layers.size();
    }

    public int layer(int heap, int k, int what)
            throws IllegalArgumentException, NoSuchElementException {
        Heap of = heapOf(heap);
        if (k < 0 || k >= of.layers.size()) {
            throw new NoSuchElementException("no such layer");
        }
        Layer asLaid = of.fromTop(k);
        switch (what) {
            case 0:
                return asLaid.tons;
            case 1:
                return asLaid.loadNumber();
            case 2:
                return asLaid.cost;
            default:
                return asLaid.spans.partOrThrow(what, 3);
        }
    }

    public int move(int from, int to, int tons) throws IllegalArgumentException {
        Heap giver = heapOf(from);
        Heap taker = heapOf(to);
        if (from == to) {
            throw new IllegalArgumentException("both heaps are one");
        }
        if (tons < 1) {
            throw new IllegalArgumentException("less than a ton");
        }
        if (tonsOf(giver.layers) < tons) {
            return 0;
        }
        if (giver.splitsFor(tons) && layersInAll() >= MOST_LAYERS) {
            return -3;
        }
        giver.giveTo(taker.layers, tons);
        return 1;
    }

    public int mix(int heap) throws IllegalArgumentException {
        Heap of = heapOf(heap);
        int before = of.layers.size();
        if (before > 1) {
            of.becomeOneLayer();
        }
        return before;
    }

    public int asked(int metal, int low, int high) throws IllegalArgumentException {
        needMetal(metal);
        needSpan(low, high);
        asked.put(metal, low, high);
        return 1;
    }

    public int best(int tons) throws IllegalArgumentException {
        needChargeTons(tons);
        return search.leastCost(heaps, asked, tons);
    }

    public int charge(int tons, int heap) throws IllegalArgumentException {
        needChargeTons(tons);
        needHeap(heap);
        return search.leastCost(heaps, asked, tons) == NONE ? NONE : search.chosen[heap];
    }

    public int melt(int tons) throws IllegalArgumentException {
        needChargeTons(tons);
        if (search.leastCost(heaps, asked, tons) == NONE) {
            return -1;
        }
        if (melts.size() >= MOST_MELTS) {
            return -2;
        }
        Melt made = new Melt(tons);
        for (int i = 0; i < HEAPS; i++) {
            heaps[i].giveTo(made.portions, search.chosen[i]);
        }
        melts.add(made);
        return melts.size() - 1;
    }

    public int portions(int melt) throws NoSuchElementException {
        return meltOf(melt).portions.size();
    }

    public int portion(int melt, int k, int what)
            throws NoSuchElementException, IllegalArgumentException {
        Melt of = meltOf(melt);
        if (k < 0 || k >= of.portions.size()) {
            throw new NoSuchElementException("no such portion");
        }
        Layer asGiven = of.portions.get(k);
        switch (what) {
            case 0:
                return asGiven.tons;
            case 1:
                return asGiven.loadNumber();
            default:
                return asGiven.spans.partOrThrow(what, 2);
        }
    }

    public int prove(int melt, int metal, int low, int high)
            throws NoSuchElementException, IllegalArgumentException {
        Melt of = meltOf(melt);
        needMetal(metal);
        needSpan(low, high);
        if (!of.narrowsAll(metal, low, high)) {
            return 0;
        }
        of.putUsualRight(metal);
        return 1;
    }

    public long money(int seller) throws NoSuchElementException {
        return sellerOf(seller).paid;
    }

    public int day(int days) throws IllegalArgumentException {
        if (days < 0 || days > MOST_DAYS || today + days > LAST_DAY) {
            throw new IllegalArgumentException("so many days can't go by");
        }
        today += days;
        return today;
    }

    public int count(int what) {
        switch (what) {
            case 0:
                return kinds.size();
            case 1:
                return sellers.size();
            case 2:
                return contracts.size();
            case 3:
                return loads.size();
            case 4:
                return layersInAll();
            case 5:
                return melts.size();
            case 6:
                return tonsInHeaps();
            case 7:
                return tonsInMelts();
            case 8:
                return tape.length();
            default:
                return NONE;
        }
    }

    private Kind kindOf(int kind) {
        if (kind < 0 || kind >= kinds.size()) {
            throw new NoSuchElementException("no such kind");
        }
        return kinds.get(kind);
    }

    private Seller sellerOf(int seller) {
        if (seller < 0 || seller >= sellers.size()) {
            throw new NoSuchElementException("no such seller");
        }
        return sellers.get(seller);
    }

    private Load loadOf(int load) {
        if (load < 0 || load >= loads.size()) {
            throw new NoSuchElementException("no such load");
        }
        return loads.get(load);
    }

    private Melt meltOf(int melt) {
        if (melt < 0 || melt >= melts.size()) {
            throw new NoSuchElementException("no such melt");
        }
        return melts.get(melt);
    }

    private Heap heapOf(int heap) {
        needHeap(heap);
        return heaps[heap];
    }

    private static void needHeap(int heap) {
        if (heap < 0 || heap >= HEAPS) {
            throw new IllegalArgumentException("no such heap");
        }
    }

    private static void needMetal(int metal) {
        if (metal < 0 || metal >= METALS) {
            throw new IllegalArgumentException("no such metal");
        }
    }

    private static void needSpan(int low, int high) {
        if (low < 0 || low > high || high > WHOLE) {
            throw new IllegalArgumentException("no span");
        }
    }

    private static void needChargeTons(int tons) {
        if (tons < 1 || tons > MOST_CHARGE_TONS) {
            throw new IllegalArgumentException("a charge has 1 to 20 tons");
        }
    }

    private void putOnTape(int fourBytes) {
        for (int shift = 24; shift >= 0; shift -= 8) {
            tape.append((char) ((fourBytes >>> shift) & 255));
        }
    }

    /** null: none is in force. */
    private Contract inForce(Seller seller, int day) {
        Contract found = null;
        for (int i = 0; i < contracts.size(); i++) {
            Contract one = contracts.get(i);
            if (one.seller == seller && one.day <= day
                    && (found == null || one.day >= found.day)) {
                found = one;
            }
        }
        return found;
    }

    private int layersInAll() {
        int sum = 0;
        for (int i = 0; i < HEAPS; i++) {
            sum += heaps[i].layers.size();
        }
        return sum;
    }

    private int tonsInHeaps() {
        int sum = 0;
        for (int i = 0; i < HEAPS; i++) {
            sum += tonsOf(heaps[i].layers);
        }
        return sum;
    }

    private int tonsInMelts() {
        int sum = 0;
        for (int i = 0; i < melts.size(); i++) {
            sum += melts.get(i).tons;
        }
        return sum;
    }

    private static int tonsOf(ArrayList<Layer> layers) {
        int sum = 0;
        for (int i = 0; i < layers.size(); i++) {
            sum += layers.get(i).tons;
        }
        return sum;
    }

    /** The sum of TONS * LOW or HIGH, whichever of them stands at the place. */
    private static int sumOf(ArrayList<Layer> layers, int place) {
        int sum = 0;
        for (int i = 0; i < layers.size(); i++) {
            Layer one = layers.get(i);
            sum += one.tons * one.spans.parts[place];
        }
        return sum;
    }

    private static int cut(int sum, int by) {
        return by <= 0 ? 0 : Math.floorDiv(sum, by);
    }

    private static int roundedUp(int sum, int by) {
        return by <= 0 ? 0 : -Math.floorDiv(-sum, by);
    }

    /** A SPAN of each METAL. */
    private static final class Spans {
        /** LOW of METAL m stands at 2 m, HIGH behind it. */
        private final int[] parts = new int[SIDES];

        Spans() {
            for (int metal = 0; metal < METALS; metal++) {
                parts[2 * metal + 1] = WHOLE;
            }
        }

        int low(int metal) {
            return parts[2 * metal];
        }

        int high(int metal) {
            return parts[2 * metal + 1];
        }

        void put(int metal, int low, int high) {
            parts[2 * metal] = low;
            parts[2 * metal + 1] = high;
        }

        boolean hasCommon(int metal, int low, int high) {
            return Math.max(low, low(metal)) <= Math.min(high, high(metal));
        }

        void narrow(int metal, int low, int high) {
            put(metal, Math.max(low, low(metal)), Math.min(high, high(metal)));
        }

        void copyFrom(Spans other) {
            System.arraycopy(other.parts, 0, parts, 0, SIDES);
        }

        /** The face numbers what can be told of a thing: its parts come last, from first on. */
        int partOrThrow(int what, int first) {
            if (what < first || what >= first + SIDES) {
                throw new IllegalArgumentException("nothing of this number is told");
            }
            return parts[what - first];
        }
    }

    private static final class Kind {
        private final int number;
        private final Spans spans = new Spans();

        Kind(int number) {
            this.number = number;
        }
    }

    private static final class Seller {
        private final int number;
        /** For each KIND its parts; NONE as long as the KIND's own is USUAL. */
        private final int[] ownParts = new int[MOST_KINDS * SIDES];
        private long paid = 0;

        Seller(int number) {
            this.number = number;
            for (int i = 0; i < ownParts.length; i++) {
                ownParts[i] = NONE;
            }
        }

        int usualPart(Kind kind, int place) {
            int part = ownParts[kind.number * SIDES + place];
            return part == NONE ? kind.spans.parts[place] : part;
        }

        void putRight(Kind kind, int metal, Spans proved) {
            int low = 2 * metal;
            int high = low + 1;
            int newLow = cut(3 * usualPart(kind, low) + proved.parts[low], 4);
            int newHigh = roundedUp(3 * usualPart(kind, high) + proved.parts[high], 4);
            ownParts[kind.number * SIDES + low] = newLow;
            ownParts[kind.number * SIDES + high] = newHigh;
        }
    }

    /** Its TESTS: of all that a METAL has, only the strictest of < and of > matters. */
    private static final class Grade {
        private final int[] below = new int[METALS];
        private final int[] above = new int[METALS];
        private int pay = 0;

        Grade() {
            for (int metal = 0; metal < METALS; metal++) {
                below[metal] = WHOLE + 1;
                above[metal] = NONE;
            }
        }

        void addTest(int metal, boolean isBelow, int limit) {
            if (isBelow) {
                below[metal] = Math.min(below[metal], limit);
            } else {
                above[metal] = Math.max(above[metal], limit);
            }
        }

        boolean isSure(Spans spans) {
            for (int metal = 0; metal < METALS; metal++) {
                if (spans.high(metal) >= below[metal] || spans.low(metal) <= above[metal]) {
                    return false;
                }
            }
            return true;
        }
    }

    private static final class Contract {
        private final int number;
        private final Seller seller;
        private final int day;
        private final ArrayList<Grade> grades = new ArrayList<>();
        /** NONE: the text has no else. */
        private int elsePay = NONE;

        Contract(int number, Seller seller, int day) {
            this.number = number;
            this.seller = seller;
            this.day = day;
        }

        /** The GRADE, or NONE for what is REFUSED. */
        int gradeOf(Spans spans) {
            for (int i = 0; i < grades.size(); i++) {
                if (grades.get(i).isSure(spans)) {
                    return i;
                }
            }
            return elsePay == NONE ? NONE : grades.size();
        }

        int payOf(int grade) {
            if (grade < 0) {
                return 0;
            }
            return grade < grades.size() ? grades.get(grade).pay : elsePay;
        }
    }

    /** Reads a text into a CONTRACT; what it takes must stand next, blanks aside. */
    private static final class ContractReader {
        private final String text;
        private final Contract contract;
        private int at = 0;
        /** Where what was looked for last would stand, so the PLACE as soon as reading fails. */
        private int place = 0;
        private int number = 0;

        ContractReader(String text, Contract contract) {
            this.text = text;
            this.contract = contract;
        }

        boolean readsAll() {
            for (int i = 0; i < MOST_GRADES && takesWord("grade"); i++) {
                if (!readsGrade()) {
                    return false;
                }
            }
            if (takesWord("else")) {
                if (!readsPay()) {
                    return false;
                }
                contract.elsePay = number;
            }
            skipBlanks();
            return at == text.length();
        }

        private boolean readsGrade() {
            Grade grade = new Grade();
            boolean more = true;
            for (int i = 0; more && i < MOST_BYTES; i++) {
                if (!readsTest(grade)) {
                    return false;
                }
                more = takesSign(',');
            }
            if (!readsPay()) {
                return false;
            }
            grade.pay = number;
            contract.grades.add(grade);
            return true;
        }

        private boolean readsTest(Grade grade) {
            int metal = takenMetal();
            if (metal == NONE) {
                return false;
            }
            boolean isBelow = takesSign('<');
            if (!isBelow && !takesSign('>')) {
                return false;
            }
            if (!takesNumber()) {
                return false;
            }
            grade.addTest(metal, isBelow, number);
            return true;
        }

        private boolean readsPay() {
            return takesWord("pay") && takesNumber() && takesSign(';');
        }

        private void skipBlanks() {
            while (at < text.length() && text.charAt(at) == ' ') {
                at++;
            }
            place = at;
        }

        /** The WORD that stands next, not yet taken; empty where none stands. */
        private String nextWord() {
            skipBlanks();
            int end = at;
            while (end < text.length() && isBetween('a', text.charAt(end), 'z')) {
                end++;
            }
            return text.substring(at, end);
        }

        private boolean takesWord(String wanted) {
            if (!nextWord().equals(wanted)) {
                return false;
            }
            at += wanted.length();
            return true;
        }

        private int takenMetal() {
            String word = nextWord();
            int metal = metalOf(word);
            if (metal != NONE) {
                at += word.length();
            }
            return metal;
        }

        private static int metalOf(String word) {
            if (word.equals("cu")) {
                return 0;
            }
            if (word.equals("ni")) {
                return 1;
            }
            if (word.equals("cr")) {
                return 2;
            }
            if (word.equals("sn")) {
                return 3;
            }
            return word.equals("ph") ? 4 : NONE;
        }

        private boolean takesSign(char wanted) {
            skipBlanks();
            if (at >= text.length() || text.charAt(at) != wanted) {
                return false;
            }
            at++;
            return true;
        }

        private boolean takesNumber() {
            skipBlanks();
            int start = at;
            // No digit can follow a NUMBER: a sixth one fails by itself, as what stands next.
            int end = Math.min(text.length(), start + MOST_DIGITS);
            number = 0;
            while (at < end && isBetween('0', text.charAt(at), '9')) {
                number = 10 * number + (text.charAt(at) - '0');
                at++;
            }
            return at > start;
        }

        private static boolean isBetween(char first, char sign, char last) {
            return first <= sign && sign <= last;
        }
    }

    private static final class Load {
        private final int number;
        private final Seller seller;
        private final Kind kind;
        private final int tons;
        private final int day;
        private final Contract contract;
        private final Spans spans = new Spans();
        private int grade = NONE;
        private int pay = 0;

        Load(int number, Seller seller, Kind kind, int tons, int day, Contract contract) {
            this.number = number;
            this.seller = seller;
            this.kind = kind;
            this.tons = tons;
            this.day = day;
            this.contract = contract;
            for (int place = 0; place < SIDES; place++) {
                spans.parts[place] = seller.usualPart(kind, place);
            }
        }

        void gradeAnew() {
            grade = contract.gradeOf(spans);
            pay = contract.payOf(grade);
        }
    }

    /** TONS that lie on a HEAP or, as a PORTION, went into a MELT. */
    private static final class Layer {
        private int tons;
        /** null: mixed. */
        private final Load load;
        private final int cost;
        private final Spans spans = new Spans();

        Layer(int tons, Load load, int cost, Spans asTheyAre) {
            this.tons = tons;
            this.load = load;
            this.cost = cost;
            spans.copyFrom(asTheyAre);
        }

        int loadNumber() {
            return load == null ? NONE : load.number;
        }

        Layer splitOff(int given) {
            tons -= given;
            return new Layer(given, load, cost, spans);
        }
    }

    private static final class Heap {
        /** The topmost LAYER stands last. */
        private final ArrayList<Layer> layers = new ArrayList<>();

        Layer fromTop(int k) {
            return layers.get(layers.size() - 1 - k);
        }

        /** Whether a LAYER would give a part only, so that one more comes into being. */
        boolean splitsFor(int tons) {
            int left = tons;
            for (int k = 0; k < layers.size() && left > 0; k++) {
                left -= fromTop(k).tons;
            }
            return left < 0;
        }

        void giveTo(ArrayList<Layer> taker, int tons) {
            int left = tons;
            for (int i = layers.size() - 1; i >= 0 && left > 0; i--) {
                Layer top = layers.get(i);
                if (top.tons > left) {
                    taker.add(top.splitOff(left));
                    left = 0;
                } else {
                    layers.remove(i);
                    taker.add(top);
                    left -= top.tons;
                }
            }
        }

        void becomeOneLayer() {
            int all = tonsOf(layers);
            Spans mean = new Spans();
            for (int metal = 0; metal < METALS; metal++) {
                int low = cut(sumOf(layers, 2 * metal), all);
                int high = roundedUp(sumOf(layers, 2 * metal + 1), all);
                mean.put(metal, low, high);
            }
            int cost = 0;
            for (int i = 0; i < layers.size(); i++) {
                cost += layers.get(i).tons * layers.get(i).cost;
            }
            layers.clear();
            layers.add(new Layer(all, null, roundedUp(cost, all), mean));
        }

        void narrowLayersOf(Load load, int metal, int low, int high) {
            for (int i = 0; i < layers.size(); i++) {
                if (layers.get(i).load == load) {
                    layers.get(i).spans.narrow(metal, low, high);
                }
            }
        }
    }

    private static final class Melt {
        private final int tons;
        private final ArrayList<Layer> portions = new ArrayList<>();

        Melt(int tons) {
            this.tons = tons;
        }

        /** False, with nothing changed, if nothing is common for some PORTION. */
        boolean narrowsAll(int metal, int low, int high) {
            // Taken ahead: each PORTION is judged by the SPANS that the others had before.
            int sumOfLows = sumOf(portions, 2 * metal);
            int sumOfHighs = sumOf(portions, 2 * metal + 1);
            for (int i = 0; i < portions.size(); i++) {
                Layer one = portions.get(i);
                int atLeast = atLeast(one, metal, low, sumOfHighs);
                int atMost = atMost(one, metal, high, sumOfLows);
                if (!one.spans.hasCommon(metal, atLeast, atMost)) {
                    return false;
                }
            }
            for (int i = 0; i < portions.size(); i++) {
                Layer one = portions.get(i);
                int atLeast = atLeast(one, metal, low, sumOfHighs);
                int atMost = atMost(one, metal, high, sumOfLows);
                one.spans.narrow(metal, atLeast, atMost);
            }
            return true;
        }

        private int atLeast(Layer one, int metal, int low, int sumOfHighs) {
            int others = sumOfHighs - one.tons * one.spans.high(metal);
            return roundedUp(tons * low - others, one.tons);
        }

        private int atMost(Layer one, int metal, int high, int sumOfLows) {
            int others = sumOfLows - one.tons * one.spans.low(metal);
            return cut(tons * high - others, one.tons);
        }

        void putUsualRight(int metal) {
            for (int i = 0; i < portions.size(); i++) {
                Layer one = portions.get(i);
                if (one.load != null) {
                    one.load.seller.putRight(one.load.kind, metal, one.spans);
                }
            }
        }
    }

    /**
     * Finds the BEST CHARGE: tries the TONS of HEAP 0, then of HEAP 1 .., fewer first, and leaves
     * a beginning as soon as no ending can make it GOOD and cheaper than what was found.
     */
    private static final class ChargeSearch {
        /** COST, and of each METAL LOW (turned negative, so that less is better of all) and HIGH. */
        private static final int SUMS = 1 + SIDES;
        private static final int STEPS = MOST_CHARGE_TONS + 1;
        /** Stands for a sum that can't be had; above all that can. */
        private static final int NEVER = 1000000000;

        private final int[] chosen = new int[HEAPS];
        private final int[] tried = new int[HEAPS];
        /** How many TONS of each HEAP can come into the CHARGE. */
        private final int[] most = new int[HEAPS];
        /** given[s][at(h, t)]: sum s over the t topmost TONS of HEAP h. */
        private final int[][] given = new int[SUMS][HEAPS * STEPS];
        /** least[s][at(h, t)]: the least sum s of t TONS out of HEAP h and those behind it. */
        private final int[][] least = new int[SUMS][(HEAPS + 1) * STEPS];
        private final int[] limits = new int[SUMS];
        /** Of what is tried; each try takes away again what it adds. */
        private final int[] sums = new int[SUMS];

        /** The COST of the BEST CHARGE, whose TONS are chosen then; NONE: none is GOOD. */
        int leastCost(Heap[] heaps, Spans asked, int tons) {
            limits[0] = NEVER - 1;
            for (int metal = 0; metal < METALS; metal++) {
                limits[1 + 2 * metal] = -asked.low(metal) * tons;
                limits[2 + 2 * metal] = asked.high(metal) * tons;
            }
            for (int i = 0; i < HEAPS; i++) {
                weigh(i, heaps[i], tons);
            }
            for (int s = 0; s < SUMS; s++) {
                boundSum(s, tons);
            }
            tryFrom(0, tons);
            return limits[0] == NEVER - 1 ? NONE : limits[0] + 1;
        }

        private static int at(int heap, int tons) {
            return heap * STEPS + tons;
        }

        private void weigh(int heap, Heap of, int tons) {
            int ton = 0;
            for (int k = 0; k < of.layers.size() && ton < tons; k++) {
                Layer one = of.fromTop(k);
                for (int i = 0; i < one.tons && ton < tons; i++) {
                    ton++;
                    addTon(at(heap, ton), one);
                }
            }
            most[heap] = ton;
        }

        private void addTon(int at, Layer one) {
            given[0][at] = given[0][at - 1] + one.cost;
            for (int metal = 0; metal < METALS; metal++) {
                int low = 1 + 2 * metal;
                int high = low + 1;
                given[low][at] = given[low][at - 1] - one.spans.low(metal);
                given[high][at] = given[high][at - 1] + one.spans.high(metal);
            }
        }

        private void boundSum(int s, int tons) {
            for (int left = 1; left <= tons; left++) {
                least[s][at(HEAPS, left)] = NEVER;
            }
            for (int heap = HEAPS - 1; heap >= 0; heap--) {
                for (int left = 0; left <= tons; left++) {
                    int found = NEVER;
                    for (int t = 0; t <= left && t <= most[heap]; t++) {
                        int rest = least[s][at(heap + 1, left - t)];
                        if (rest != NEVER) {
                            found = Math.min(found, given[s][at(heap, t)] + rest);
                        }
                    }
                    least[s][at(heap, left)] = found;
                }
            }
        }

        private void tryFrom(int heap, int left) {
            if (!hasHope(heap, left)) {
                return;
            }
            if (heap >= HEAPS) {
                keep();
                return;
            }
            for (int t = 0; t <= left && t <= most[heap]; t++) {
                tried[heap] = t;
                addGiven(at(heap, t), 1);
                tryFrom(heap + 1, left - t);
                addGiven(at(heap, t), -1);
            }
        }

        private boolean hasHope(int heap, int left) {
            for (int s = 0; s < SUMS; s++) {
                if (sums[s] + least[s][at(heap, left)] > limits[s]) {
                    return false;
                }
            }
            return true;
        }

        private void addGiven(int at, int times) {
            for (int s = 0; s < SUMS; s++) {
                sums[s] += times * given[s][at];
            }
        }

        private void keep() {
            System.arraycopy(tried, 0, chosen, 0, HEAPS);
            // What comes later must be cheaper: of equals the first one is BEST.
            limits[0] = sums[0] - 1;
        }
    }
}
