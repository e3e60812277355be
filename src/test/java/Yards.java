/** Yards that several tests of edges start from. */
final class Yards {
    private Yards() {
    }

    /**
     * Something of all that there can be: KINDS 0 to 2, SELLERS 0 and 1, CONTRACTS 0 to 2, LOADS 0
     * to 5, one LAYER on heaps 0 and 3 (a mixed one), two on heap 4, MELTS 0 to 2 with 1, 2 and 2
     * PORTIONS, and a text of 40 bytes on the TAPE.
     */
    static ScrapYard busy() {
        ScrapYard yard = new ScrapYard();
        for (int i = 0; i < 3; i++) {
            yard.kind();
        }
        yard.seller();
        yard.seller();
        yard.span(0, 0, 100, 300);
        yard.span(1, 4, 50, 90);
        yard.span(2, 2, 1000, 2000);
        Check.contract(yard, "grade cu<400 pay 9; else pay 4;", 0, 0);
        Check.contract(yard, "else pay 6;", 1, 2);
        Check.contract(yard, "else pay 8;", 0, 5);
        yard.day(2);
        yard.load(0, 0, 0, 10);
        yard.load(0, 1, 0, 5);
        yard.load(1, 0, 1, 7);
        yard.load(1, 2, 2, 20);
        yard.load(0, 2, 3, 2);
        yard.load(0, 0, 3, 3);
        yard.sample(2, 1, 500, 7000);
        yard.mix(3);
        yard.move(0, 4, 9);
        yard.melt(6);
        yard.melt(20);
        yard.melt(3);
        yard.prove(1, 2, 1000, 3000);
        yard.asked(0, 0, 400);
        Check.feedText(yard, "else pay 5;                             ");
        return yard;
    }

    /** One KIND, one SELLER who is paid 1, and so many LOADS of a ton, mixed now and then; 40 LAYERS of 100. */
    static ScrapYard withLoads(int loads) {
        ScrapYard yard = Check.openYard(1, 1);
        for (int i = 0; i < loads; i++) {
            if (i == 30 || i == 61) {
                yard.mix(0);
            }
            yard.load(0, 0, 0, 1);
        }
        return yard;
    }

    /** One KIND, one SELLER who is paid 1, and so many LOADS of two tons, a LAYER each, on all HEAPS. */
    static ScrapYard withLayers(int layers) {
        ScrapYard yard = Check.openYard(1, 1);
        for (int i = 0; i < layers; i++) {
            yard.load(0, 0, i % 6, 2);
        }
        return yard;
    }

    /** One LOAD of 50 tons on heap 0, and so many MELTS of a ton of it. */
    static ScrapYard withMelts(int melts) {
        ScrapYard yard = Check.openYard(1, 1);
        yard.load(0, 0, 0, 50);
        for (int i = 0; i < melts; i++) {
            yard.melt(1);
        }
        return yard;
    }

    static ScrapYard withKinds(int kinds) {
        return Check.openYard(kinds, 1);
    }

    static ScrapYard withSellers(int sellers) {
        ScrapYard yard = new ScrapYard();
        yard.kind();
        for (int i = 0; i < sellers; i++) {
            yard.seller();
        }
        return yard;
    }

    /** Two SELLERS who in turn told so many empty texts. */
    static ScrapYard withContracts(int contracts) {
        ScrapYard yard = withSellers(2);
        for (int i = 0; i < contracts; i++) {
            yard.contract(0, i % 2, 0);
        }
        return yard;
    }
}
