import java.util.TreeMap;

/** Long runs of calls on a desk and on a slow one beside it: every answer must be the same. */
public final class ModelTest {
    private static final int RUNS = 1500;
    private static final int WORK_CALLS = 300;
    private static final int MOST_CALLS = 512;
    private static final int[] EDGES = {0, 1, 2, -1, -2, 9, 10, 15, 16, 17, 40, 9999, 10000, 10001,
        50000000, 99999998, 99999999, 100000000, -9999, -10000, -99999999, -100000000,
        Integer.MAX_VALUE, Integer.MIN_VALUE};
    private static final String[] NAMES = {"constant", "symbol", "plus", "minus", "times", "put", "size",
        "term", "same", "value", "hypothesis", "keep", "part", "show", "count"};

    private static int wrong = 0;
    private static final TreeMap<String, Integer> ANSWERS = new TreeMap<>();

    private long seed;
    private final PolyDesk desk = new PolyDesk();
    private final SlowDesk slow = new SlowDesk();
    private final int run;
    private final int registers;
    private final int symbols;
    private int calls = 0;

    private ModelTest(int run) {
        this.run = run;
        this.seed = run * 1000003L + 17L;
        this.registers = isNearLimits() ? 7 + below(4) : 3 + below(14);
        this.symbols = 1 + below(16);
    }

    public static void main(String[] args) {
        for (int run = 0; run < RUNS && wrong < 20; run++) {
            new ModelTest(run).go();
        }
        // Without each of these kinds of answers the runs would prove too little.
        String[] needed = {"constant -2", "plus -2", "minus -2", "times -2", "put -2", "put more", "show -2",
            "show 0", "show 1", "show -1", "hypothesis -1", "part -1", "keep -1", "same 1", "same 0"};
        for (String kind : needed) {
            if (ANSWERS.getOrDefault(kind, 0) < 50) {
                wrong++;
                System.out.println("too few calls with the answer: " + kind);
            }
        }
        System.out.println(wrong == 0 ? "all answers are as due" : wrong + " answers are not as due");
        if (wrong != 0) {
            System.exit(1);
        }
    }

    private int below(int bound) {
        seed = seed * 6364136223846793005L + 1442695040888963407L;
        return (int) ((seed >>> 33) % bound);
    }

    private int register() {
        return below(60) == 0 ? EDGES[below(EDGES.length)] : below(registers) % 16;
    }

    private int small(int bound) {
        return below(60) == 0 ? EDGES[below(EDGES.length)] : below(bound);
    }

    private int number() {
        int kind = below(10);
        return kind == 0 ? EDGES[below(EDGES.length)] : kind == 1 ? below(20000) - 10000 : below(9) - 4;
    }

    private boolean isNearLimits() {
        return run % 3 == 0;
    }

    /** Polys next to the document's limits, so that the calls behind them often go beyond these. */
    private void approachLimits() {
        both(0, 0, 99999999 - below(3));
        for (int s = 0; s < 4; s++) {
            both(1, 1, s);
            both(2, 2, 2, 1);
        }
        both(0, 3, 1);
        for (int n = 0; n < 5; n++) {
            both(4, 3, 3, 2);
        }
        for (int s = 6 + below(3); s > 3; s--) {
            both(1, 1, s);
            both(2, 3, 3, 1);
        }
        both(1, 4, below(symbols));
        both(0, 5, 1);
        for (int n = 7 + below(3); n > 0; n--) {
            both(4, 5, 5, 4);
        }
        both(10, 3);
        both(10, 5);
    }

    private void go() {
        if (isNearLimits()) {
            approachLimits();
        }
        for (int n = 0; n < WORK_CALLS && wrong < 20; n++) {
            int die = below(100);
            if (die < 3) {
                witness();
            } else {
                call(pick(die));
            }
        }
        while (calls < MOST_CALLS && wrong < 20) {
            look();
        }
    }

    private static int pick(int die) {
        int[] upTo = {12, 28, 42, 54, 72, 78, 79, 80, 82, 84, 89, 91, 95, 98, 100};
        int which = 0;
        while (die >= upTo[which]) {
            which++;
        }
        return which;
    }

    private void call(int which) {
        switch (which) {
            case 0 -> both(0, register(), number());
            case 1 -> both(1, register(), small(symbols));
            case 2, 3, 4 -> both(which, register(), register(), register());
            case 5 -> both(5, register(), register());
            case 6 -> both(6, register());
            case 7 -> both(7, register(), small(12), small(18) - 1);
            case 8 -> both(8, register(), register());
            case 9 -> both(9, register(), number());
            case 10 -> both(10, register());
            case 11 -> both(11, small(45));
            case 12 -> both(12, Math.abs(number()), small(5) - 1, small(6) - 1, small(4) - 1, small(42) - 1);
            case 13 -> both(13, register(), small(4));
            default -> both(14, small(3));
        }
    }

    /** A witness that often shows its poly: the same products, worked in registers and as TERMS. */
    private void witness() {
        int top = registers - 1;
        both(11, 0);
        both(10, 0);
        both(10, 1);
        int k = 1 + below(3);
        both(0, top, 0);
        for (int n = below(4); n >= 0; n--) {
            int a = below(2);
            int b = below(2);
            int times = 1 + below(3);
            both(0, 2, times);
            both(4, 2, 2, a);
            both(4, 2, 2, b);
            both(2, top, top, 2);
            both(12, times * k, -1, a, below(8) == 0 ? 1 : -1, b);
        }
        both(13, top, k);
    }

    /** Looks at what the calls left, so that a change that no answer told is seen. */
    private void look() {
        int r = below(16);
        int die = below(4);
        if (die == 0) {
            both(6, r);
        } else if (die == 1) {
            both(9, r, below(5) - 2);
        } else {
            both(7, r, below(Math.max(1, slow.size(r))), below(17) - 1);
        }
    }

    private void both(int which, int... n) {
        if (calls >= MOST_CALLS) {
            return;
        }
        calls++;
        long got = answer(which, n, desk);
        long want = answer(which, n, slow);
        String kind = NAMES[which] + (want > 1 ? " more" : " " + want);
        ANSWERS.merge(kind, 1, Integer::sum);
        if (got != want) {
            wrong++;
            System.out.println("run " + run + ", call " + calls + ": " + NAMES[which]
                    + java.util.Arrays.toString(n) + " answered " + got + ", due is " + want);
        }
    }

    private static long answer(int which, int[] n, PolyDesk x) {
        return switch (which) {
            case 0 -> x.constant(n[0], n[1]);
            case 1 -> x.symbol(n[0], n[1]);
            case 2 -> x.plus(n[0], n[1], n[2]);
            case 3 -> x.minus(n[0], n[1], n[2]);
            case 4 -> x.times(n[0], n[1], n[2]);
            case 5 -> x.put(n[0], n[1]);
            case 6 -> x.size(n[0]);
            case 7 -> x.term(n[0], n[1], n[2]);
            case 8 -> x.same(n[0], n[1]);
            case 9 -> x.value(n[0], n[1]);
            case 10 -> x.hypothesis(n[0]);
            case 11 -> x.keep(n[0]);
            case 12 -> x.part(n[0], n[1], n[2], n[3], n[4]);
            case 13 -> x.show(n[0], n[1]);
            default -> x.count(n[0]);
        };
    }

    private static long answer(int which, int[] n, SlowDesk x) {
        return switch (which) {
            case 0 -> x.constant(n[0], n[1]);
            case 1 -> x.symbol(n[0], n[1]);
            case 2 -> x.plus(n[0], n[1], n[2]);
            case 3 -> x.minus(n[0], n[1], n[2]);
            case 4 -> x.times(n[0], n[1], n[2]);
            case 5 -> x.put(n[0], n[1]);
            case 6 -> x.size(n[0]);
            case 7 -> x.term(n[0], n[1], n[2]);
            case 8 -> x.same(n[0], n[1]);
            case 9 -> x.value(n[0], n[1]);
            case 10 -> x.hypothesis(n[0]);
            case 11 -> x.keep(n[0]);
            case 12 -> x.part(n[0], n[1], n[2], n[3], n[4]);
            case 13 -> x.show(n[0], n[1]);
            default -> x.count(n[0]);
        };
    }
}
