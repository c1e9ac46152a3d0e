import java.math.BigInteger;
import java.util.ArrayList;
import java.util.Arrays;
import java.util.Comparator;
import java.util.List;
import java.util.Map;
import java.util.TreeMap;

/** A second desk, written straight from the document with no thought of speed or room. */
final class SlowDesk {
    private static final BigInteger MOST = BigInteger.valueOf(99999999);

    /** ORDER: the first key of a poly's map is its term 0. */
    private static final Comparator<int[]> ORDER = (a, b) -> {
        int sums = Integer.compare(Arrays.stream(b).sum(), Arrays.stream(a).sum());
        for (int s = 0; s < 16 && sums == 0; s++) {
            sums = Integer.compare(b[s], a[s]);
        }
        return sums;
    };

    /** A refusal on the way; only this desk's own code throws it. */
    private static final class TooBig extends Exception {
        private static final long serialVersionUID = 1L;
    }

    private record Part(int number, int[] hypotheses) { }

    private final List<TreeMap<int[], BigInteger>> registers = new ArrayList<>();
    private final List<TreeMap<int[], BigInteger>> hypotheses = new ArrayList<>();
    private final List<Part> parts = new ArrayList<>();

    SlowDesk() {
        for (int r = 0; r < 16; r++) {
            registers.add(new TreeMap<>(ORDER));
        }
    }

    private static boolean in16(int... all) {
        return Arrays.stream(all).allMatch(n -> n >= 0 && n < 16);
    }

    private static TreeMap<int[], BigInteger> one(BigInteger coefficient, int[] powers) {
        TreeMap<int[], BigInteger> poly = new TreeMap<>(ORDER);
        if (coefficient.signum() != 0) {
            poly.put(powers, coefficient);
        }
        return poly;
    }

    private static TreeMap<int[], BigInteger> number(long n) {
        return one(BigInteger.valueOf(n), new int[16]);
    }

    private static TreeMap<int[], BigInteger> checked(TreeMap<int[], BigInteger> poly) throws TooBig {
        poly.values().removeIf(c -> c.signum() == 0);
        boolean big = poly.values().stream().anyMatch(c -> c.abs().compareTo(MOST) > 0);
        if (big || poly.size() > 60) {
            throw new TooBig();
        }
        return poly;
    }

    private static TreeMap<int[], BigInteger> sum(Map<int[], BigInteger> x, Map<int[], BigInteger> y, int sign)
            throws TooBig {
        TreeMap<int[], BigInteger> sum = new TreeMap<>(ORDER);
        x.forEach((powers, c) -> sum.merge(powers, c, BigInteger::add));
        y.forEach((powers, c) -> sum.merge(powers, c.multiply(BigInteger.valueOf(sign)), BigInteger::add));
        return checked(sum);
    }

    private static TreeMap<int[], BigInteger> product(Map<int[], BigInteger> x, Map<int[], BigInteger> y)
            throws TooBig {
        TreeMap<int[], BigInteger> product = new TreeMap<>(ORDER);
        for (Map.Entry<int[], BigInteger> a : x.entrySet()) {
            for (Map.Entry<int[], BigInteger> b : y.entrySet()) {
                int[] powers = new int[16];
                for (int s = 0; s < 16; s++) {
                    powers[s] = a.getKey()[s] + b.getKey()[s];
                    if (powers[s] > 9) {
                        throw new TooBig();
                    }
                }
                product.merge(powers, a.getValue().multiply(b.getValue()), BigInteger::add);
            }
        }
        return checked(product);
    }

    private int store(int r, TreeMap<int[], BigInteger> poly) {
        registers.set(r, poly);
        return poly.size();
    }

    int constant(int r, int v) {
        if (!in16(r)) {
            return -1;
        }
        try {
            return store(r, checked(number(v)));
        } catch (TooBig e) {
            return -2;
        }
    }

    int symbol(int r, int s) {
        if (!in16(r, s)) {
            return -1;
        }
        int[] powers = new int[16];
        powers[s] = 1;
        return store(r, one(BigInteger.ONE, powers));
    }

    int plus(int r, int x, int y) {
        return plusOrMinus(r, x, y, 1);
    }

    int minus(int r, int x, int y) {
        return plusOrMinus(r, x, y, -1);
    }

    private int plusOrMinus(int r, int x, int y, int sign) {
        if (!in16(r, x, y)) {
            return -1;
        }
        try {
            return store(r, sum(registers.get(x), registers.get(y), sign));
        } catch (TooBig e) {
            return -2;
        }
    }

    int times(int r, int x, int y) {
        if (!in16(r, x, y)) {
            return -1;
        }
        try {
            return store(r, product(registers.get(x), registers.get(y)));
        } catch (TooBig e) {
            return -2;
        }
    }

    int put(int r, int x) {
        if (!in16(r, x)) {
            return -1;
        }
        try {
            TreeMap<int[], BigInteger> total = number(0);
            for (Map.Entry<int[], BigInteger> term : registers.get(x).entrySet()) {
                TreeMap<int[], BigInteger> worked = one(term.getValue(), new int[16]);
                for (int s = 0; s < 16; s++) {
                    for (int n = 0; n < term.getKey()[s]; n++) {
                        worked = product(worked, registers.get(s));
                    }
                }
                total = sum(total, worked, 1);
            }
            return store(r, total);
        } catch (TooBig e) {
            return -2;
        }
    }

    int size(int x) {
        return in16(x) ? registers.get(x).size() : -1;
    }

    int term(int x, int k, int what) {
        if (!in16(x) || k < 0 || k >= registers.get(x).size() || what < -1 || what > 15) {
            return 0;
        }
        int[] powers = new ArrayList<>(registers.get(x).keySet()).get(k);
        return what == -1 ? registers.get(x).get(powers).intValueExact() : powers[what];
    }

    int same(int x, int y) {
        if (!in16(x, y)) {
            return -1;
        }
        return alike(registers.get(x), registers.get(y)) ? 1 : 0;
    }

    private static boolean alike(TreeMap<int[], BigInteger> x, TreeMap<int[], BigInteger> y) {
        return x.size() == y.size()
                && x.entrySet().stream().allMatch(term -> term.getValue().equals(y.get(term.getKey())));
    }

    long value(int x, int n) {
        if (!in16(x)) {
            return 0;
        }
        BigInteger value = BigInteger.ZERO;
        for (Map.Entry<int[], BigInteger> term : registers.get(x).entrySet()) {
            int power = Arrays.stream(term.getKey()).sum();
            value = value.add(term.getValue().multiply(BigInteger.valueOf(n).pow(power)));
        }
        return value.longValue();
    }

    int hypothesis(int x) {
        if (!in16(x) || hypotheses.size() == 40) {
            return -1;
        }
        hypotheses.add(registers.get(x));
        return hypotheses.size() - 1;
    }

    int keep(int n) {
        if (n < 0 || n > hypotheses.size()) {
            return -1;
        }
        hypotheses.subList(n, hypotheses.size()).clear();
        return n;
    }

    int part(int n, int a, int b, int c, int d) {
        if (n < 0 || n > 99999999 || Math.min(Math.min(a, b), Math.min(c, d)) < -1 || parts.size() == 20) {
            return -1;
        }
        parts.add(new Part(n, new int[] {a, b, c, d}));
        return parts.size();
    }

    int show(int x, int k) {
        if (!in16(x) || k < 1 || k > 99999999) {
            return -1;
        }
        List<Part> witness = new ArrayList<>(parts);
        parts.clear();
        for (Part part : witness) {
            if (Arrays.stream(part.hypotheses()).anyMatch(h -> h >= hypotheses.size())) {
                return 0;
            }
        }
        try {
            TreeMap<int[], BigInteger> wanted = product(number(k), registers.get(x));
            TreeMap<int[], BigInteger> total = number(0);
            for (Part part : witness) {
                TreeMap<int[], BigInteger> worked = number(part.number());
                for (int h : part.hypotheses()) {
                    worked = h == -1 ? worked : product(worked, hypotheses.get(h));
                }
                total = sum(total, worked, 1);
            }
            return alike(total, wanted) ? 1 : 0;
        } catch (TooBig e) {
            return -2;
        }
    }

    int count(int what) {
        return what == 0 ? hypotheses.size() : what == 1 ? parts.size() : -1;
    }
}
