/**
 * A desk of polys with whole coefficients in sixteen symbols: worked in registers, shown by sums
 * of products of hypotheses; what grows too big is refused.
 */
public final class PolyDesk {
    public static final int NONE = -1;
    public static final int TOO_BIG = -2;

    private static final int REGISTERS = 16;
    private static final int SYMBOLS = 16;
    private static final int MOST_POWER = 9;
    private static final int MOST_TERMS = 60;
    private static final int MOST_NUMBER = 99999999;
    private static final int MOST_HYPOTHESES = 40;
    private static final int MOST_PARTS = 20;
    private static final int FACTORS = 4;

    // A term's powers are one long, its code: the sum of the powers, then sixteen decimal digits,
    // symbol 0 first. So ORDER is the order of numbers, and codes are added where terms are
    // multiplied, as long as no power goes above 9.
    private static final long SUM_PLACE = 10000000000000000L;
    private static final long CONSTANT_CODE = 0L;

    // Polys in these two rows are never changed, so registers and hypotheses may share them.
    private final Poly[] registers;
    private final Poly[] hypotheses;
    private int hypothesisCount;

    private final int[] partNumbers;
    private final int[] partFactors;
    private int partCount;

    private final Bench bench;

    public PolyDesk() {
        Poly zero = new Poly(0);
        registers = new Poly[REGISTERS];
        for (int r = 0; r < REGISTERS; r++) {
            registers[r] = zero;
        }
        hypotheses = new Poly[MOST_HYPOTHESES];
        for (int h = 0; h < MOST_HYPOTHESES; h++) {
            hypotheses[h] = zero;
        }
        hypothesisCount = 0;
        partNumbers = new int[MOST_PARTS];
        partFactors = new int[MOST_PARTS * FACTORS];
        partCount = 0;
        bench = new Bench();
    }

    public int constant(int r, int v) {
        if (!isRegister(r)) {
            return NONE;
        }
        if (v > MOST_NUMBER || v < -MOST_NUMBER) {
            return TOO_BIG;
        }
        bench.beginProduct(CONSTANT_CODE, v);
        return store(r, bench.product);
    }

    public int symbol(int r, int s) {
        if (!isRegister(r) || !isSymbol(s)) {
            return NONE;
        }
        bench.beginProduct(symbolCode(s), 1);
        return store(r, bench.product);
    }

    public int plus(int r, int x, int y) {
        return combine(r, x, y, 1);
    }

    public int minus(int r, int x, int y) {
        return combine(r, x, y, -1);
    }

    public int times(int r, int x, int y) {
        if (!isRegister(r) || !isRegister(x) || !isRegister(y)) {
            return NONE;
        }
        if (!bench.makeProduct(registers[x], registers[y])) {
            return TOO_BIG;
        }
        return store(r, bench.product);
    }

    public int put(int r, int x) {
        if (!isRegister(r) || !isRegister(x)) {
            return NONE;
        }
        Poly poly = registers[x];
        bench.beginTotal();
        for (int k = 0; k < poly.length; k++) {
            if (!workTerm(poly, k) || !bench.addProduct()) {
                return TOO_BIG;
            }
        }
        return store(r, bench.total);
    }

    public int size(int x) {
        return isRegister(x) ? registers[x].length : NONE;
    }

    public int term(int x, int k, int what) {
        if (!isRegister(x)) {
            return 0;
        }
        if (what == -1) {
            return registers[x].coefficientAt(k);
        }
        return registers[x].powerAt(k, what);
    }

    public int same(int x, int y) {
        if (!isRegister(x) || !isRegister(y)) {
            return NONE;
        }
        return registers[x].matches(registers[y]) ? 1 : 0;
    }

    public long value(int x, int n) {
        return isRegister(x) ? registers[x].valueWith(n) : 0L;
    }

    public int hypothesis(int x) {
        if (!isRegister(x) || hypothesisCount >= MOST_HYPOTHESES) {
            return NONE;
        }
        hypotheses[hypothesisCount] = registers[x];
        hypothesisCount++;
        return hypothesisCount - 1;
    }

    public int keep(int n) {
        if (n < 0 || n > hypothesisCount) {
            return NONE;
        }
        hypothesisCount = n;
        return n;
    }

    public int part(int n, int a, int b, int c, int d) {
        if (n < 0 || n > MOST_NUMBER || partCount >= MOST_PARTS) {
            return NONE;
        }
        if (a < NONE || b < NONE || c < NONE || d < NONE) {
            return NONE;
        }
        int first = partCount * FACTORS;
        partFactors[first] = a;
        partFactors[first + 1] = b;
        partFactors[first + 2] = c;
        partFactors[first + 3] = d;
        partNumbers[partCount] = n;
        partCount++;
        return partCount;
    }

    public int show(int x, int k) {
        if (!isRegister(x) || k < 1 || k > MOST_NUMBER) {
            return NONE;
        }
        int answer = judge(registers[x], k);
        partCount = 0;
        return answer;
    }

    public int count(int what) {
        if (what == 0) {
            return hypothesisCount;
        }
        return what == 1 ? partCount : NONE;
    }

    private static boolean isRegister(int r) {
        return r >= 0 && r < REGISTERS;
    }

    private static boolean isSymbol(int s) {
        return s >= 0 && s < SYMBOLS;
    }

    private static long symbolCode(int s) {
        long place = 1L;
        for (int later = s + 1; later < SYMBOLS; later++) {
            place = place * 10L;
        }
        return SUM_PLACE + place;
    }

    private int store(int r, Poly worked) {
        registers[r] = worked.copied();
        return worked.length;
    }

    private int combine(int r, int x, int y, int sign) {
        if (!isRegister(r) || !isRegister(x) || !isRegister(y)) {
            return NONE;
        }
        if (!bench.makeTotal(registers[x], registers[y], sign)) {
            return TOO_BIG;
        }
        return store(r, bench.total);
    }

    /** Works term k of a poly with the registers for its symbols; false: too big. */
    private boolean workTerm(Poly poly, int k) {
        bench.beginProduct(CONSTANT_CODE, poly.coefficientAt(k));
        for (int s = 0; s < SYMBOLS; s++) {
            int power = poly.powerAt(k, s);
            for (int n = 0; n < power; n++) {
                if (!bench.multiplyBy(registers[s])) {
                    return false;
                }
            }
        }
        return true;
    }

    private int judge(Poly poly, int k) {
        if (!factorsAreThere()) {
            return 0;
        }
        bench.beginProduct(CONSTANT_CODE, k);
        if (!bench.multiplyBy(poly)) {
            return TOO_BIG;
        }
        Poly wanted = bench.product.copied();
        bench.beginTotal();
        for (int p = 0; p < partCount; p++) {
            if (!workPart(p) || !bench.addProduct()) {
                return TOO_BIG;
            }
        }
        return bench.total.matches(wanted) ? 1 : 0;
    }

    private boolean factorsAreThere() {
        for (int f = 0; f < partCount * FACTORS; f++) {
            if (partFactors[f] >= hypothesisCount) {
                return false;
            }
        }
        return true;
    }

    /** Works one part of the witness, whose hypotheses are all there; false: too big. */
    private boolean workPart(int p) {
        bench.beginProduct(CONSTANT_CODE, partNumbers[p]);
        for (int f = p * FACTORS; f < (p + 1) * FACTORS; f++) {
            int h = partFactors[f];
            if (h >= 0 && h < hypothesisCount && !bench.multiplyBy(hypotheses[h])) {
                return false;
            }
        }
        return true;
    }

    /** Terms in ORDER. What a desk keeps is never changed; what a bench holds is written anew. */
    private static final class Poly {
        private final long[] codes;
        private final int[] coefficients;
        private int length;

        // The greatest power of each symbol, looked for only when the poly is multiplied.
        private final int[] tops;
        private boolean topsKnown;

        private Poly(int room) {
            int rows = Math.max(0, Math.min(room, MOST_TERMS));
            codes = new long[rows];
            coefficients = new int[rows];
            length = 0;
            tops = new int[SYMBOLS];
            topsKnown = false;
        }

        private void clear() {
            length = 0;
            topsKnown = false;
        }

        /** One term more, behind all others in ORDER; none for a coefficient 0; false: too big. */
        private boolean append(long code, long coefficient) {
            if (coefficient == 0L) {
                return true;
            }
            if (coefficient > MOST_NUMBER || coefficient < -MOST_NUMBER || length >= codes.length) {
                return false;
            }
            codes[length] = code;
            coefficients[length] = (int) coefficient;
            length++;
            return true;
        }

        private Poly copied() {
            Poly copy = new Poly(length);
            for (int k = 0; k < length; k++) {
                copy.append(codes[k], coefficients[k]);
            }
            return copy;
        }

        private boolean hasTerm(int k) {
            return k >= 0 && k < length;
        }

        private int coefficientAt(int k) {
            return hasTerm(k) ? coefficients[k] : 0;
        }

        private int powerAt(int k, int s) {
            if (!hasTerm(k) || !isSymbol(s)) {
                return 0;
            }
            long digits = codes[k];
            for (int later = s + 1; later < SYMBOLS; later++) {
                digits = digits / 10L;
            }
            return (int) (digits % 10L);
        }

        private boolean matches(Poly other) {
            if (length != other.length) {
                return false;
            }
            for (int k = 0; k < length; k++) {
                if (codes[k] != other.codes[k] || coefficients[k] != other.coefficients[k]) {
                    return false;
                }
            }
            return true;
        }

        /** Horner's way: the sums of powers never rise from term to term. */
        private long valueWith(int n) {
            long value = 0L;
            long reached = length > 0 ? codes[0] / SUM_PLACE : 0L;
            for (int k = 0; k < length; k++) {
                long sum = codes[k] / SUM_PLACE;
                for (; reached > sum; reached--) {
                    value = value * n;
                }
                value = value + coefficients[k];
            }
            for (; reached > 0L; reached--) {
                value = value * n;
            }
            return value;
        }

        private void findTops() {
            if (topsKnown) {
                return;
            }
            for (int s = 0; s < SYMBOLS; s++) {
                tops[s] = 0;
            }
            for (int k = 0; k < length; k++) {
                long digits = codes[k];
                for (int s = SYMBOLS - 1; s >= 0; s--) {
                    tops[s] = Math.max(tops[s], (int) (digits % 10L));
                    digits = digits / 10L;
                }
            }
            topsKnown = true;
        }

        /**
         * Takes the tops of a product of two polys that are not 0; false: a power above 9. Whole
         * numbers have no divisors of 0, so the tops of a product are the sums of the tops; and
         * some two terms have just these powers, so no pair of terms need be looked at.
         */
        private boolean takeTops(Poly x, Poly y) {
            x.findTops();
            y.findTops();
            for (int s = 0; s < SYMBOLS; s++) {
                tops[s] = x.tops[s] + y.tops[s];
                if (tops[s] > MOST_POWER) {
                    return false;
                }
            }
            topsKnown = true;
            return true;
        }

        /** Becomes x plus sign times y, neither of which is this one; false: too big. */
        private boolean takeSum(Poly x, Poly y, int sign) {
            clear();
            int i = 0;
            int j = 0;
            int bound = x.length + y.length;
            for (int step = 0; step < bound && (i < x.length || j < y.length); step++) {
                boolean ofX = i < x.length && (j >= y.length || x.codes[i] >= y.codes[j]);
                boolean ofY = j < y.length && (i >= x.length || y.codes[j] >= x.codes[i]);
                long code = ofX ? x.codes[i] : y.codes[j];
                long coefficient = 0L;
                if (ofX) {
                    coefficient += x.coefficients[i];
                    i++;
                }
                if (ofY) {
                    coefficient += (long) sign * y.coefficients[j];
                    j++;
                }
                if (!append(code, coefficient)) {
                    return false;
                }
            }
            return true;
        }
    }

    /** Room to work in, made once with the desk, so that the work itself makes nothing new. */
    private static final class Bench {
        private Poly product;
        private Poly total;
        private Poly spare;

        // While two polys are multiplied: for each term of the shorter one, how many terms of the
        // longer one it has met; and how many terms of the shorter one have begun.
        private final int[] met;
        private int begun;

        private Bench() {
            product = new Poly(MOST_TERMS);
            total = new Poly(MOST_TERMS);
            spare = new Poly(MOST_TERMS);
            met = new int[MOST_TERMS];
            begun = 0;
        }

        private void beginProduct(long code, int coefficient) {
            product.clear();
            product.append(code, coefficient);
        }

        private void beginTotal() {
            total.clear();
        }

        private boolean makeTotal(Poly x, Poly y, int sign) {
            return total.takeSum(x, y, sign);
        }

        private boolean makeProduct(Poly x, Poly y) {
            return fillProduct(product, x, y);
        }

        private boolean multiplyBy(Poly factor) {
            boolean fits = fillProduct(spare, product, factor);
            Poly old = product;
            product = spare;
            spare = old;
            return fits;
        }

        private boolean addProduct() {
            boolean fits = spare.takeSum(total, product, 1);
            Poly old = total;
            total = spare;
            spare = old;
            return fits;
        }

        /** Makes the target x times y, neither of which is the target; false: too big. */
        private boolean fillProduct(Poly target, Poly x, Poly y) {
            target.clear();
            if (x.length == 0 || y.length == 0) {
                return true;
            }
            if (!target.takeTops(x, y)) {
                return false;
            }
            return x.length <= y.length ? merge(target, x, y) : merge(target, y, x);
        }

        /**
         * Each term of the shorter poly times the longer one is a row in ORDER: the rows are
         * merged, so like terms meet without room for every pair of terms.
         */
        private boolean merge(Poly target, Poly shorter, Poly longer) {
            for (int i = 0; i < shorter.length; i++) {
                met[i] = 0;
            }
            begun = 1;
            int pairs = shorter.length * longer.length;
            for (int step = 0; step < pairs; step++) {
                long code = greatestCode(shorter, longer);
                if (code < 0L) {
                    return true;
                }
                if (!target.append(code, gather(code, shorter, longer))) {
                    return false;
                }
                // A row's first term comes behind the first of the row ahead of it.
                if (begun < shorter.length && met[begun - 1] > 0) {
                    begun++;
                }
            }
            return true;
        }

        /** The greatest code that the rows have yet to give, -1 if they are at their ends. */
        private long greatestCode(Poly shorter, Poly longer) {
            long greatest = -1L;
            for (int i = 0; i < begun; i++) {
                if (met[i] < longer.length) {
                    greatest = Math.max(greatest, shorter.codes[i] + longer.codes[met[i]]);
                }
            }
            return greatest;
        }

        /** Takes the terms with this code from the rows and puts them together. */
        private long gather(long code, Poly shorter, Poly longer) {
            long coefficient = 0L;
            for (int i = 0; i < begun; i++) {
                int j = met[i];
                if (j < longer.length && shorter.codes[i] + longer.codes[j] == code) {
                    coefficient += (long) shorter.coefficients[i] * longer.coefficients[j];
                    met[i] = j + 1;
                }
            }
            return coefficient;
        }
    }
}
