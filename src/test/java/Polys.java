/** Builders of polys in registers, for the tests. */
final class Polys {
    static final int MOST = 99999999;
    /** Wrong numbers of registers and symbols, those next to the right ones first. */
    static final int[] NO_REGISTER = {-1, 16, -2, 17, Integer.MIN_VALUE, Integer.MAX_VALUE};

    private Polys() {
    }

    /** Register r becomes coefficient times the symbols, each to the power 1. */
    static void monomial(PolyDesk x, int r, int spare, int coefficient, int... symbols) {
        x.constant(r, coefficient);
        for (int s : symbols) {
            x.symbol(spare, s);
            x.times(r, r, spare);
        }
    }

    /** Register r becomes symbol s to the power n. */
    static void power(PolyDesk x, int r, int spare, int s, int n) {
        x.constant(r, 1);
        x.symbol(spare, s);
        for (int times = 0; times < n; times++) {
            x.times(r, r, spare);
        }
    }

    /** Register r becomes more by coefficient times the symbols; spoils registers 14 and 15. */
    static void more(PolyDesk x, int r, int coefficient, int... symbols) {
        monomial(x, 14, 15, coefficient, symbols);
        x.plus(r, r, 14);
    }

    /**
     * Register r becomes a poly of so many terms: a power of the sum of symbols 0 .. 3, and as many
     * of the symbols 4 .. 15 as it takes; spoils registers 14 and 15.
     */
    static void terms(PolyDesk x, int r, int howMany) {
        int[] ofPower = {1, 4, 10, 20, 35, 56};
        int power = 0;
        while (power < 5 && ofPower[power + 1] <= howMany) {
            power++;
        }
        x.constant(15, 0);
        for (int s = 0; s < 4; s++) {
            x.symbol(14, s);
            x.plus(15, 15, 14);
        }
        x.constant(r, 1);
        for (int n = 0; n < power; n++) {
            x.times(r, r, 15);
        }
        for (int s = 4; s < 4 + howMany - ofPower[power]; s++) {
            x.symbol(14, s);
            x.plus(r, r, 14);
        }
    }

    /** Register r becomes the product of all symbols, each to the power 9. */
    static void allNines(PolyDesk x, int r, int spare) {
        x.constant(r, 1);
        for (int s = 0; s < 16; s++) {
            x.symbol(spare, s);
            for (int n = 0; n < 9; n++) {
                x.times(r, r, spare);
            }
        }
    }
}
