import java.util.function.Consumer;
import java.util.function.ToLongFunction;

/**
 * The boundary cases of '## What it is', '## The public face' and '## Terms': at the boundary, one
 * below and one above it, and that a refused call changes nothing.
 */
public final class TermsBoundariesTest {
    private static final int MOST = Polys.MOST;
    private static final int[][] FACTORS = {{2, 49999999}, {9999, 10001}, {10000, 10000}};
    private static final int[] PRODUCTS = {MOST - 1, MOST, MOST + 1};

    private TermsBoundariesTest() {
    }

    public static void main(String[] args) {
        Checks.sentence("NONE = -1, TOO_BIG = -2", TermsBoundariesTest::constants);
        Checks.sentence("at most 512 calls", TermsBoundariesTest::lastCalls);
        Checks.sentence("at most 512 calls: each method", TermsBoundariesTest::eachMethodLast);
        Checks.sentence("what later calls answer is free", TermsBoundariesTest::laterCalls);
        Checks.sentence("a coefficient that is not 0", TermsBoundariesTest::coefficientsOfZero);
        Checks.sentence("powers 0 .. 9 of SYMBOLS 0 .. 15", TermsBoundariesTest::powers);
        Checks.sentence("like terms are put together", TermsBoundariesTest::likeTerms);
        Checks.sentence("a coefficient beyond 99,999,999: sums", TermsBoundariesTest::coefficientsOfSums);
        Checks.sentence("a coefficient beyond 99,999,999: products", TermsBoundariesTest::coefficientsOfProducts);
        Checks.sentence("a coefficient beyond 99,999,999: any term", TermsBoundariesTest::coefficientsAnywhere);
        Checks.sentence("when like terms are put together", TermsBoundariesTest::putTogetherFirst);
        Checks.sentence("more than 60 terms: sums", TermsBoundariesTest::termsOfSums);
        Checks.sentence("more than 60 terms: products", TermsBoundariesTest::termsOfProducts);
        Checks.sentence("more than 60 terms: when put together", TermsBoundariesTest::termsThatGo);
        Checks.sentence("a power above 9", TermsBoundariesTest::powersOfProducts);
        Checks.sentence("a power above 9: any two terms", TermsBoundariesTest::powersOfAnyTwo);
        Checks.sentence("a power above 9: though it go", TermsBoundariesTest::powersThatGo);
        Checks.sentence("ORDER of terms", TermsBoundariesTest::order);
        Checks.sentence("at most 40", TermsBoundariesTest::fortyHypotheses);
        Checks.sentence("at most 20 TERMS", TermsBoundariesTest::twentyParts);
        Checks.sentence("at most four HYPOTHESES", TermsBoundariesTest::fourFactors);
        Checks.sentence("as they are when it is asked for", TermsBoundariesTest::asTheyAre);
        Checks.sentence("Registers are 0 .. 15, 0 at first", TermsBoundariesTest::registers);
        Checks.sentence("NONE, changing nothing: no such register", TermsBoundariesTest::noRegister);
        Checks.sentence("NONE, changing nothing: no such SYMBOL", TermsBoundariesTest::noSymbol);
        Checks.sentence("NONE, changing nothing: no such HYPOTHESIS", TermsBoundariesTest::noHypothesis);
        Checks.sentence("NONE, changing nothing: no such number", TermsBoundariesTest::noNumber);
        Checks.sentence("-2, changing nothing", TermsBoundariesTest::tooBig);
        Checks.finish();
    }

    private static void constants() {
        Checks.due("NONE", PolyDesk.NONE, -1);
        Checks.due("TOO_BIG", PolyDesk.TOO_BIG, -2);
        PolyDesk x = new PolyDesk();
        Checks.due("size(16)", x.size(16), PolyDesk.NONE);
        Checks.due("constant(0, 100000000)", x.constant(0, MOST + 1), PolyDesk.TOO_BIG);
        Checks.due("part with NONE for each", x.part(1, PolyDesk.NONE, PolyDesk.NONE, PolyDesk.NONE,
                PolyDesk.NONE), 1);
    }

    private static void lastCalls() {
        PolyDesk x = new PolyDesk();
        Checks.due("call 1", x.constant(1, 1), 1);
        for (int call = 2; call <= 510; call++) {
            Checks.due("call " + call, x.plus(0, 0, 1), 1);
        }
        Checks.due("call 511", x.value(0, 7), 509);
        Checks.due("call 512", x.term(0, 0, -1), 509);
        PolyDesk refused = new PolyDesk();
        Checks.due("call 1", refused.constant(0, 4), 1);
        for (int call = 2; call <= 511; call++) {
            Checks.due("call " + call + ", refused", refused.plus(0, 0, 16), -1);
        }
        Checks.due("call 512 behind refused ones", refused.value(0, 7), 4);
    }

    /** Each method as call 511 and as call 512, behind calls that leave a desk as it is known. */
    private static void eachMethodLast() {
        for (int before = 510; before <= 511; before++) {
            lastIs("constant(0, 9)", before, x -> x.constant(0, 9), 1);
            lastIs("symbol(0, 15)", before, x -> x.symbol(0, 15), 1);
            lastIs("plus(0, 1, 2)", before, x -> x.plus(0, 1, 2), 3);
            lastIs("minus(0, 1, 1)", before, x -> x.minus(0, 1, 1), 0);
            lastIs("times(0, 1, 2)", before, x -> x.times(0, 1, 2), 4);
            lastIs("put(0, 1)", before, x -> x.put(0, 1), 2);
            lastIs("size(1)", before, x -> x.size(1), 2);
            lastIs("term(1, 0, -1)", before, x -> x.term(1, 0, -1), 3);
            lastIs("same(1, 2)", before, x -> x.same(1, 2), 0);
            lastIs("value(1, 10)", before, x -> x.value(1, 10), 32);
            lastIs("hypothesis(0)", before, x -> x.hypothesis(0), 3);
            lastIs("keep(2)", before, x -> x.keep(2), 2);
            lastIs("part(0, 0, 0, 0, 0)", before, x -> x.part(0, 0, 0, 0, 0), 4);
            lastIs("show(1, 1)", before, x -> x.show(1, 1), 0);
            lastIs("count(1)", before, x -> x.count(1), 3);
        }
    }

    private static void lastIs(String name, int before, ToLongFunction<PolyDesk> call, long want) {
        // The run of a furnished scene is known to have this many calls.
        int furnishing = 1 + 15 * 5 + 3 + 3;
        PolyDesk x = Scene.furnished().desk();
        for (int n = furnishing; n < before; n++) {
            x.times(15, 14, 13);
        }
        Checks.due(name + " as call " + (before + 1), call.applyAsLong(x), want);
    }

    /** They may answer what they like, but no call may throw or fail to end. */
    private static void laterCalls() {
        PolyDesk x = Scene.furnished().desk();
        for (int n = 0; n < 600; n++) {
            x.constant(n % 18 - 1, n);
            x.symbol(n % 18 - 1, n % 17);
            x.plus(n % 17, n % 16, n % 13);
            x.minus(n % 17, n % 16, n % 11);
            x.times(n % 16, n % 15, n % 14);
            x.put(n % 16, n % 7);
            x.hypothesis(n % 17);
            x.part(n, n % 42 - 1, n % 3, n % 5 - 1, -1);
            if (n % 30 == 0) {
                x.show(n % 16, 1 + n % 3);
            }
            if (n % 70 == 0) {
                x.keep(n % 40);
            }
            x.term(n % 17, n % 61, n % 18 - 1);
        }
        Checks.hold("calls beyond 512 end", true);
    }

    private static void coefficientsOfZero() {
        PolyDesk x = new PolyDesk();
        x.symbol(0, 0);
        x.constant(1, 1);
        x.plus(2, 0, 1);
        Checks.due("(a + 1) - a", x.minus(3, 2, 0), 1);
        Checks.due("(a + 1) - 1", x.minus(3, 2, 1), 1);
        Checks.due("its term 0", x.term(3, 0, 0), 1);
        Checks.due("(a + 1) - (a + 1)", x.minus(3, 2, 2), 0);
        x.minus(4, 0, 1);
        Checks.due("(a + 1)(a - 1)", x.times(5, 2, 4), 2);
        Checks.due("(a + 1) + (a - 1)", x.plus(5, 2, 4), 1);
        Checks.due("constant(5, 0)", x.constant(5, 0), 0);
        Checks.due("constant(5, 1)", x.constant(5, 1), 1);
        Checks.due("constant(5, -1)", x.constant(5, -1), 1);
        x.constant(0, 1);
        Checks.due("put of a - 1 with 1 for a", x.put(5, 4), 0);
        x.constant(0, 2);
        Checks.due("put of a - 1 with 2 for a", x.put(5, 4), 1);
    }

    private static void powers() {
        PolyDesk x = new PolyDesk();
        Polys.allNines(x, 0, 1);
        Checks.due("every symbol to the power 9", x.size(0), 1);
        for (int s = 0; s < 16; s++) {
            Checks.due("its power of " + s, x.term(0, 0, s), 9);
        }
        for (int s = 0; s < 16; s++) {
            int one = s;
            new Scene(y -> {
                Polys.allNines(y, 0, 1);
                y.symbol(1, one);
            }).refuses("it times symbol " + s, y -> y.times(0, 0, 1), -2);
        }
        x.constant(1, 1);
        Checks.due("power 0 of every symbol", x.term(1, 0, 0) + x.term(1, 0, 15), 0);
        Checks.due("it times 1", x.times(2, 0, 1), 1);
        Checks.due("is the same", x.same(2, 0), 1);
    }

    private static void likeTerms() {
        PolyDesk x = new PolyDesk();
        Polys.more(x, 0, 3, 4, 9);
        Polys.more(x, 0, 4, 9, 4);
        Checks.due("3ej + 4je", x.size(0), 1);
        Checks.due("of ej", x.term(0, 0, -1), 7);
        Polys.more(x, 0, 2, 4, 9, 9);
        Checks.due("with 2ejj", x.size(0), 2);
        Polys.more(x, 0, -7, 4, 9);
        Checks.due("with -7ej", x.size(0), 1);
        Checks.due("2ejj stays", x.term(0, 0, -1), 2);
    }

    /** Register 9 becomes the answer of the call: refused beyond 99,999,999, else one term. */
    private static void bounded(String name, Consumer<PolyDesk> run, ToLongFunction<PolyDesk> call, long coefficient) {
        Scene scene = Scene.furnished().with(run);
        if (Math.abs(coefficient) > MOST) {
            scene.refuses(name, call, -2);
            return;
        }
        PolyDesk x = scene.desk();
        Checks.due(name, call.applyAsLong(x), 1);
        Checks.due(name + ": size", x.size(9), 1);
        Checks.due(name + ": coefficient", x.term(9, 0, -1), coefficient);
        scene.changes(name, call, 1, "register 9");
    }

    private static void coefficientsOfSums() {
        for (int sign = -1; sign <= 1; sign += 2) {
            for (int over = -1; over <= 1; over++) {
                int much = sign * (MOST - 3);
                int more = sign * (3 + over);
                long sum = (long) much + more;
                bounded("constant " + sum, x -> { }, x -> x.constant(9, much + more), sum);
                bounded("plus " + sum, x -> {
                    x.constant(0, much);
                    x.constant(1, more);
                }, x -> x.plus(9, 0, 1), sum);
                bounded("minus " + sum, x -> {
                    x.constant(0, much);
                    x.constant(1, -more);
                }, x -> x.minus(9, 0, 1), sum);
                bounded("put, a sum " + sum, x -> {
                    x.symbol(0, 0);
                    x.symbol(1, 1);
                    x.plus(2, 0, 1);
                    x.constant(0, much);
                    x.constant(1, more);
                }, x -> x.put(9, 2), sum);
            }
        }
    }

    private static void coefficientsOfProducts() {
        for (int sign = -1; sign <= 1; sign += 2) {
            for (int n = 0; n < FACTORS.length; n++) {
                int first = FACTORS[n][0];
                int second = sign * FACTORS[n][1];
                long product = (long) sign * PRODUCTS[n];
                bounded("times " + product, x -> {
                    x.constant(0, first);
                    x.constant(1, second);
                }, x -> x.times(9, 0, 1), product);
                bounded("put, a coefficient times a poly " + product, x -> {
                    Polys.monomial(x, 2, 3, first, 0);
                    x.constant(0, second);
                }, x -> x.put(9, 2), product);
                bounded("put, a poly times a poly " + product, x -> {
                    Polys.monomial(x, 2, 3, 1, 0, 1);
                    x.constant(0, first);
                    x.constant(1, second);
                }, x -> x.put(9, 2), product);
            }
        }
    }

    /** The coefficient that is too big is that of the first, of the second, of the last term. */
    private static void coefficientsAnywhere() {
        int[][] kinds = {{0, 0}, {0}, {}};
        for (int big = 0; big < kinds.length; big++) {
            int at = big;
            for (int over = 0; over <= 1; over++) {
                int more = over;
                Scene scene = new Scene(x -> {
                    for (int k = 0; k < kinds.length; k++) {
                        Polys.more(x, 0, k == at ? MOST - 1 : 5, kinds[k]);
                        Polys.more(x, 1, k == at ? 1 + more : 5, kinds[k]);
                        Polys.more(x, 2, k == at ? 9999 + more : 5, kinds[k]);
                    }
                    x.constant(3, 10001 - more);
                    x.minus(4, 9, 1);
                });
                String name = ", term " + big + " is " + (MOST + over);
                boundedTerms("plus" + name, scene, x -> x.plus(9, 0, 1), over == 0, 3);
                boundedTerms("minus" + name, scene, x -> x.minus(9, 0, 4), over == 0, 3);
                boundedTerms("times" + name, scene, x -> x.times(9, 2, 3), over == 0, 3);
            }
        }
    }

    private static void putTogetherFirst() {
        Scene sameSigns = new Scene(x -> {
            Polys.more(x, 0, 50000000, 0);
            Polys.more(x, 0, 49999999);
            Polys.more(x, 1, 1, 0);
            Polys.more(x, 1, 1);
            Polys.more(x, 2, 50000000, 0);
            Polys.more(x, 2, 50000000);
        });
        sameSigns.changes("50,000,000 and 49,999,999", x -> x.times(9, 0, 1), 3, "register 9");
        sameSigns.refuses("50,000,000 and 50,000,000", x -> x.times(9, 2, 1), -2);
        for (int c = -1; c <= 1; c++) {
            int last = c;
            Scene otherSigns = new Scene(x -> {
                Polys.more(x, 0, 1, 0, 0);
                Polys.more(x, 0, 10000, 0);
                Polys.more(x, 0, 1);
                Polys.more(x, 1, 1, 0, 0);
                Polys.more(x, 1, -10000, 0);
                Polys.more(x, 1, last);
            });
            String name = "-100,000,000 and " + (c + 1);
            boundedTerms(name, otherSigns, x -> x.times(9, 0, 1), c >= 0, 3);
            if (c >= 0) {
                PolyDesk x = otherSigns.desk();
                x.times(9, 0, 1);
                Checks.due(name, x.term(9, 1, -1), c - MOST);
            }
        }
    }

    private static void termsOfSums() {
        for (int most = 59; most <= 61; most++) {
            int first = most - 1;
            Scene scene = Scene.furnished().with(x -> {
                Polys.terms(x, 0, first);
                x.constant(1, 1);
            });
            boundedTerms("plus, one term more", scene, x -> x.plus(9, 0, 1), most);
            boundedTerms("plus, one term ahead", scene, x -> x.plus(9, 1, 0), most);
            boundedTerms("minus, one term more", scene, x -> x.minus(9, 0, 1), most);
            boundedTerms("minus, one term ahead", scene, x -> x.minus(9, 1, 0), most);
            Scene puts = Scene.furnished().with(x -> {
                x.symbol(0, 0);
                x.symbol(1, 1);
                x.plus(2, 0, 1);
                Polys.terms(x, 0, first);
                x.constant(1, 1);
            });
            boundedTerms("put, one term more", puts, x -> x.put(9, 2), most);
        }
    }

    private static void boundedTerms(String name, Scene scene, ToLongFunction<PolyDesk> call, int howMany) {
        boundedTerms(name, scene, call, howMany <= 60, howMany);
    }

    /** Register 9 becomes the answer of the call, with so many terms, or the call is refused. */
    private static void boundedTerms(String name, Scene scene, ToLongFunction<PolyDesk> call, boolean fits,
            int howMany) {
        if (!fits) {
            scene.refuses(name + ": " + howMany, call, -2);
            return;
        }
        scene.changes(name + ": " + howMany, call, howMany, "register 9");
        PolyDesk x = scene.desk();
        call.applyAsLong(x);
        Checks.due(name + ": size", x.size(9), howMany);
        Checks.hold(name + ": the last term is there", x.term(9, howMany - 1, -1) != 0);
    }

    /**
     * Register 0 has terms of which no two differ by symbol 15, but for one pair if asked for;
     * register 1 is symbol 15 and a sign.
     */
    private static Scene pairs(int howMany, boolean onePair, int sign) {
        return Scene.furnished().with(x -> {
            Polys.terms(x, 0, onePair ? howMany - 1 : howMany);
            if (onePair) {
                Polys.more(x, 0, 1, 4, 15);
            }
            x.constant(2, sign);
            x.symbol(1, 15);
            x.plus(1, 1, 2);
            Polys.monomial(x, 2, 3, 1, 0, 1);
        });
    }

    private static void termsOfProducts() {
        boundedTerms("times", pairs(30, true, 1), x -> x.times(9, 0, 1), 59);
        boundedTerms("times", pairs(30, false, 1), x -> x.times(9, 0, 1), 60);
        boundedTerms("times", pairs(31, true, 1), x -> x.times(9, 0, 1), 61);
        boundedTerms("times the other way", pairs(30, true, 1), x -> x.times(9, 1, 0), 59);
        boundedTerms("times the other way", pairs(30, false, 1), x -> x.times(9, 1, 0), 60);
        boundedTerms("times the other way", pairs(31, true, 1), x -> x.times(9, 1, 0), 61);
        boundedTerms("put", pairs(30, true, 1), x -> x.put(9, 2), 59);
        boundedTerms("put", pairs(30, false, 1), x -> x.put(9, 2), 60);
        boundedTerms("put", pairs(31, true, 1), x -> x.put(9, 2), 61);
    }

    private static void termsThatGo() {
        boundedTerms("times, two that go", pairs(31, true, -1), x -> x.times(9, 0, 1), 60);
        boundedTerms("put, two that go", pairs(31, true, -1), x -> x.put(9, 2), 60);
        boundedTerms("times, too many", pairs(31, false, -1), x -> x.times(9, 0, 1), 62);
        Scene oneGoes = Scene.furnished().with(x -> {
            Polys.terms(x, 0, 60);
            x.symbol(1, 7);
            x.constant(2, 1);
            x.minus(3, 2, 1);
            x.minus(4, 1, 2);
        });
        boundedTerms("plus, one goes and one comes", oneGoes, x -> x.plus(9, 0, 3), 60);
        boundedTerms("minus, one goes and one comes", oneGoes, x -> x.minus(9, 0, 4), 60);
        boundedTerms("plus, all stay", oneGoes, x -> x.plus(9, 0, 0), 60);
        boundedTerms("plus, one comes", oneGoes, x -> x.plus(9, 0, 2), 61);
    }

    private static void powersOfProducts() {
        for (int s = 0; s < 16; s++) {
            int one = s;
            for (int high = 8; high <= 10; high++) {
                int rest = high - 4;
                Scene scene = Scene.furnished().with(x -> {
                    Polys.power(x, 5, 9, one, 4);
                    Polys.power(x, 6, 9, one, rest);
                    Polys.monomial(x, 7, 9, 1, 5, 6);
                });
                String name = "power " + high + " of symbol " + s;
                if (high > 9) {
                    scene.refuses("times, " + name, x -> x.times(8, 5, 6), -2);
                    scene.refuses("times the other way, " + name, x -> x.times(8, 6, 5), -2);
                    scene.refuses("put, " + name, x -> x.put(8, 7), -2);
                } else {
                    scene.changes("times, " + name, x -> x.times(8, 5, 6), 1, "register 8");
                    scene.changes("put, " + name, x -> x.put(8, 7), 1, "register 8");
                    PolyDesk x = scene.desk();
                    x.times(8, 5, 6);
                    Checks.due(name, x.term(8, 0, s), high);
                }
            }
        }
    }

    /** Each of three terms times each of three: the power of symbol 8 is in one of each alone. */
    private static void powersOfAnyTwo() {
        for (int i = 0; i < 3; i++) {
            for (int j = 0; j < 3; j++) {
                for (int high = 9; high <= 10; high++) {
                    int at = i;
                    int otherAt = j;
                    int rest = high - 5;
                    Scene scene = new Scene(x -> {
                        threeTerms(x, 0, at, 5);
                        threeTerms(x, 1, otherAt, rest);
                    });
                    String name = "terms " + i + " and " + j + ", power " + high;
                    if (high > 9) {
                        scene.refuses(name, x -> x.times(9, 0, 1), -2);
                    } else {
                        Checks.hold(name, scene.desk().times(9, 0, 1) > 0);
                    }
                }
            }
        }
    }

    /** Register r becomes terms with sums of powers 9, 8, 7, of which one has a power of symbol 8. */
    private static void threeTerms(PolyDesk x, int r, int at, int power) {
        for (int k = 0; k < 3; k++) {
            int[] symbols = new int[9 - k];
            for (int n = 0; n < symbols.length; n++) {
                symbols[n] = k == at && n < power ? 8 : n % 4 + (r == 0 ? 0 : 4);
            }
            Polys.more(x, r, 1, symbols);
        }
    }

    private static void powersThatGo() {
        Scene crossing = new Scene(x -> {
            Polys.more(x, 0, 1, 0, 0, 0, 0, 0, 1);
            Polys.more(x, 0, 1, 0, 0, 0, 0, 0);
            Polys.more(x, 1, 1, 0, 0, 0, 0, 0, 1);
            Polys.more(x, 1, -1, 0, 0, 0, 0, 0);
        });
        crossing.refuses("what goes has a power 10, and what stays", x -> x.times(9, 0, 1), -2);
        Scene summed = Scene.furnished().with(x -> {
            x.constant(3, 0);
            Polys.more(x, 3, 1, 0, 0);
            Polys.more(x, 3, -1, 1, 1);
            Polys.power(x, 0, 9, 5, 5);
            Polys.power(x, 1, 9, 5, 5);
        });
        summed.refuses("put, a power 10 that the sum would take away", x -> x.put(9, 3), -2);
        Scene byZero = Scene.furnished().with(x -> {
            Polys.power(x, 0, 9, 5, 5);
            x.constant(1, 0);
            x.constant(4, 0);
            Polys.monomial(x, 2, 9, 1, 0, 0, 1);
            Polys.monomial(x, 3, 9, 1, 1, 5, 5);
            Polys.power(x, 5, 9, 5, 5);
            Polys.power(x, 6, 9, 5, 9);
        });
        byZero.refuses("put, a power 10 ahead of a 0", x -> x.put(9, 2), -2);
        byZero.changes("put, a 0 ahead of a power 10", x -> x.put(9, 3), 0, "register 9");
        byZero.changes("0 times a power 9", x -> x.times(9, 4, 6), 0, "register 9");
        byZero.changes("a power 9 times 0", x -> x.times(9, 6, 4), 0, "register 9");
        byZero.changes("a power 9 plus itself", x -> x.plus(9, 6, 6), 1, "register 9");
    }

    private static void order() {
        inOrder("the greater sum first: 1 and 0", new int[] {15}, new int[] {});
        inOrder("the greater sum first: 2 and 1", new int[] {15, 15}, new int[] {0});
        inOrder("the greater sum first: 10 and 9", new int[] {14, 15, 15, 15, 15, 15, 15, 15, 15, 15},
                new int[] {0, 0, 0, 0, 0, 0, 0, 0, 0});
        inOrder("the greater power of symbol 0", new int[] {0}, new int[] {1});
        inOrder("the greater power of symbol 14", new int[] {14}, new int[] {15});
        inOrder("the first in which they differ", new int[] {3, 5, 9, 9}, new int[] {3, 6, 6, 6});
        inOrder("the first in which they differ, by one", new int[] {3, 3, 4, 15, 15}, new int[] {3, 3, 5, 5, 5});
        inOrder("power 9 and 8", new int[] {2, 2, 2, 2, 2, 2, 2, 2, 2}, new int[] {2, 2, 2, 2, 2, 2, 2, 2, 3});
        PolyDesk x = new PolyDesk();
        Polys.allNines(x, 0, 1);
        x.constant(2, 1);
        for (int s = 1; s < 16; s++) {
            x.symbol(1, s);
            for (int n = 0; n < 9; n++) {
                x.times(2, 2, 1);
            }
        }
        x.plus(3, 2, 0);
        Checks.due("sums of powers 144 and 135", x.term(3, 0, 0), 9);
        Checks.due("then 135", x.term(3, 1, 0), 0);
    }

    /** Whichever comes first into the sum, and whatever the coefficients. */
    private static void inOrder(String name, int[] first, int[] second) {
        for (int sign = -1; sign <= 1; sign += 2) {
            PolyDesk x = new PolyDesk();
            Polys.more(x, 0, 2 * sign, first);
            Polys.more(x, 0, 3, second);
            Polys.more(x, 1, 3, second);
            Polys.more(x, 1, 2 * sign, first);
            Checks.due(name, x.term(0, 0, -1), 2 * sign);
            Checks.due(name + ", behind it", x.term(0, 1, -1), 3);
            Checks.due(name + ", the other way", x.same(0, 1), 1);
        }
    }

    private static Scene hypotheses(int howMany) {
        return Scene.furnished().with(x -> {
            for (int h = 3; h < howMany; h++) {
                x.hypothesis(h % 16);
            }
        });
    }

    private static void fortyHypotheses() {
        hypotheses(38).changes("the 39th", x -> x.hypothesis(5), 38, "count(0)", "hypothesis 38");
        hypotheses(39).changes("the 40th", x -> x.hypothesis(5), 39, "count(0)", "hypothesis 39");
        hypotheses(40).refuses("the 41st", x -> x.hypothesis(5), -1);
        hypotheses(40).with(x -> x.hypothesis(5)).refuses("the 41st again", x -> x.hypothesis(5), -1);
        Checks.due("numbered from 0 on", new PolyDesk().hypothesis(0), 0);
        PolyDesk x = hypotheses(40).desk();
        x.show(0, 1);
        x.part(1, 39, -1, -1, -1);
        Checks.due("number 39 is there", x.show(39 % 16, 1), 1);
    }

    private static Scene parts(int howMany) {
        return Scene.furnished().with(x -> {
            for (int p = 3; p < howMany; p++) {
                x.part(0, -1, -1, -1, -1);
            }
        });
    }

    private static void twentyParts() {
        parts(18).changes("the 19th", x -> x.part(1, -1, -1, -1, -1), 19, "count(1)", "TERMS");
        parts(19).changes("the 20th", x -> x.part(1, -1, -1, -1, -1), 20, "count(1)", "TERMS");
        parts(20).refuses("the 21st", x -> x.part(1, -1, -1, -1, -1), -1);
        parts(20).with(x -> x.part(1, -1, -1, -1, -1)).refuses("the 21st again", x -> x.part(1, 0, 1, 2, -1), -1);
        for (int howMany = 18; howMany <= 21; howMany++) {
            PolyDesk x = new PolyDesk();
            for (int p = 1; p <= howMany; p++) {
                x.part(p, -1, -1, -1, -1);
            }
            int all = Math.min(howMany, 20);
            x.constant(0, all * (all + 1) / 2);
            Checks.due("all of them are added", x.show(0, 1), 1);
        }
    }

    private static void fourFactors() {
        int[][] factors = {{-1, -1, -1, -1}, {0, -1, -1, -1}, {-1, 0, -1, -1}, {-1, -1, 0, -1}, {-1, -1, -1, 0},
            {0, 1, -1, -1}, {-1, 0, -1, 1}, {0, 1, 2, -1}, {-1, 2, 1, 0}, {0, 1, 2, 3}, {3, 3, 3, 3}};
        int[] values = {2, 3, 5, 7};
        for (int[] four : factors) {
            PolyDesk x = new PolyDesk();
            int product = 11;
            for (int h = 0; h < 4; h++) {
                x.constant(0, values[h]);
                x.hypothesis(0);
                product = product * (four[h] < 0 ? 1 : values[four[h]]);
            }
            x.constant(0, product);
            for (int n = -1; n <= 1; n++) {
                x.part(11 + n, four[0], four[1], four[2], four[3]);
                Checks.due("the number " + (11 + n) + " times its HYPOTHESES", x.show(0, 1), n == 0 ? 1 : 0);
            }
        }
    }

    private static void asTheyAre() {
        PolyDesk x = new PolyDesk();
        Checks.due("a TERM ahead of its HYPOTHESIS", x.part(1, 0, -1, -1, -1), 1);
        x.constant(0, 4);
        x.hypothesis(0);
        x.constant(1, 4);
        x.constant(0, 9);
        Checks.due("it is there when asked for", x.show(1, 1), 1);
        x.part(1, 0, -1, -1, -1);
        x.keep(0);
        x.hypothesis(0);
        Checks.due("another is there when asked for", x.show(0, 1), 1);
        x.part(1, 0, -1, -1, -1);
        x.keep(0);
        Checks.due("none is there when asked for", x.show(0, 1), 0);
    }

    private static void registers() {
        PolyDesk x = new PolyDesk();
        for (int r = 0; r < 16; r++) {
            Checks.due("size(" + r + ") at first", x.size(r), 0);
        }
        for (int r = 0; r < 16; r++) {
            int one = r;
            Scene scene = Scene.furnished();
            String only = "register " + r;
            scene.changes("constant " + r, y -> y.constant(one, 77), 1, only);
            scene.changes("symbol " + r, y -> y.symbol(one, 0), 1, only);
            scene.changes("plus " + r, y -> y.plus(one, 1, 2), 3, only);
            scene.changes("minus " + r, y -> y.minus(one, 1, 2), 3, only);
            scene.changes("times " + r, y -> y.times(one, 1, 2), 4, only);
            scene.changes("put " + r, y -> y.put(one, 1), 2, only);
            Checks.due("same " + r, scene.desk().same(one, one), 1);
            scene.changes("hypothesis " + r, y -> y.hypothesis(one), 3, "count(0)", "hypothesis 3");
            scene.changes("show " + r, y -> y.show(one, 1), 0, "count(1)", "TERMS");
        }
    }

    private static void noRegister() {
        Scene scene = Scene.furnished();
        for (int n : Polys.NO_REGISTER) {
            scene.refuses("constant(" + n + ", 1)", x -> x.constant(n, 1), -1);
            scene.refuses("symbol(" + n + ", 1)", x -> x.symbol(n, 1), -1);
            scene.refuses("plus(" + n + ", 1, 2)", x -> x.plus(n, 1, 2), -1);
            scene.refuses("plus(1, " + n + ", 2)", x -> x.plus(1, n, 2), -1);
            scene.refuses("plus(1, 2, " + n + ")", x -> x.plus(1, 2, n), -1);
            scene.refuses("minus(" + n + ", 1, 2)", x -> x.minus(n, 1, 2), -1);
            scene.refuses("minus(1, " + n + ", 2)", x -> x.minus(1, n, 2), -1);
            scene.refuses("minus(1, 2, " + n + ")", x -> x.minus(1, 2, n), -1);
            scene.refuses("times(" + n + ", 1, 2)", x -> x.times(n, 1, 2), -1);
            scene.refuses("times(1, " + n + ", 2)", x -> x.times(1, n, 2), -1);
            scene.refuses("times(1, 2, " + n + ")", x -> x.times(1, 2, n), -1);
            scene.refuses("put(" + n + ", 1)", x -> x.put(n, 1), -1);
            scene.refuses("put(1, " + n + ")", x -> x.put(1, n), -1);
            scene.refuses("size(" + n + ")", x -> x.size(n), -1);
            scene.refuses("term(" + n + ", 0, -1)", x -> x.term(n, 0, -1), 0);
            scene.refuses("same(" + n + ", 1)", x -> x.same(n, 1), -1);
            scene.refuses("same(1, " + n + ")", x -> x.same(1, n), -1);
            scene.refuses("value(" + n + ", 1)", x -> x.value(n, 1), 0);
            scene.refuses("hypothesis(" + n + ")", x -> x.hypothesis(n), -1);
            scene.refuses("show(" + n + ", 1)", x -> x.show(n, 1), -1);
        }
    }

    private static void noSymbol() {
        Scene scene = Scene.furnished();
        for (int n : Polys.NO_REGISTER) {
            scene.refuses("symbol(1, " + n + ")", x -> x.symbol(1, n), -1);
        }
        scene.changes("symbol(1, 0)", x -> x.symbol(1, 0), 1, "register 1");
        scene.changes("symbol(1, 15)", x -> x.symbol(1, 15), 1, "register 1");
    }

    private static void noHypothesis() {
        Scene scene = Scene.furnished();
        int[] beyond = {-2, -3, Integer.MIN_VALUE};
        for (int h : beyond) {
            scene.refuses("part(1, " + h + ", 0, 1, 2)", x -> x.part(1, h, 0, 1, 2), -1);
            scene.refuses("part(1, 0, " + h + ", 1, 2)", x -> x.part(1, 0, h, 1, 2), -1);
            scene.refuses("part(1, 0, 1, " + h + ", 2)", x -> x.part(1, 0, 1, h, 2), -1);
            scene.refuses("part(1, 0, 1, 2, " + h + ")", x -> x.part(1, 0, 1, 2, h), -1);
        }
        scene.refuses("keep(4) of 3", x -> x.keep(4), -1);
        scene.refuses("keep(3) of 3", x -> x.keep(3), 3);
        scene.refuses("keep(-1)", x -> x.keep(-1), -1);
    }

    private static void noNumber() {
        Scene scene = Scene.furnished();
        int[] beyond = {-1, MOST + 1, Integer.MIN_VALUE, Integer.MAX_VALUE};
        for (int n : beyond) {
            scene.refuses("part(" + n + ", ..)", x -> x.part(n, 0, 1, -1, -1), -1);
            scene.refuses("show(1, " + n + ")", x -> x.show(1, n), -1);
            scene.refuses("keep(" + n + ")", x -> x.keep(n), -1);
            scene.refuses("count(" + n + ")", x -> x.count(n), -1);
        }
    }

    /** Each call that can be too big, onto a register of its own, and onto one that it reads. */
    private static void tooBig() {
        Scene scene = Scene.furnished().with(x -> {
            x.constant(8, MOST);
            x.constant(9, -MOST);
            Polys.monomial(x, 10, 11, 2, 8);
        });
        for (int r = 7; r <= 10; r++) {
            int to = r;
            scene.refuses("constant", x -> x.constant(to, MOST + 1), -2);
            scene.refuses("constant", x -> x.constant(to, -MOST - 1), -2);
            scene.refuses("plus", x -> x.plus(to, 8, 8), -2);
            scene.refuses("minus", x -> x.minus(to, 8, 9), -2);
            scene.refuses("times", x -> x.times(to, 8, 9), -2);
            scene.refuses("put", x -> x.put(to, 10), -2);
        }
    }
}
