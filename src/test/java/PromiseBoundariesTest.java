import java.math.BigInteger;
import java.util.Arrays;
import java.util.List;
import java.util.Map;
import java.util.function.Consumer;

/**
 * The boundary cases of promises 1 to 16, a test for each sentence that names one: at the boundary,
 * one below and one above it, and that what the document says stays has stayed.
 */
public final class PromiseBoundariesTest {
    private static final int MOST = Polys.MOST;
    private static final int MIN = Integer.MIN_VALUE;
    private static final int MAX = Integer.MAX_VALUE;

    private PromiseBoundariesTest() {
    }

    public static void main(String[] args) {
        Checks.sentence("1: All registers 0; no HYPOTHESES, no TERMS", PromiseBoundariesTest::newObject);
        Checks.sentence("1: A new object", PromiseBoundariesTest::objectsOfTheirOwn);
        Checks.sentence("2: Register r is v: how many terms it has", PromiseBoundariesTest::constant);
        Checks.sentence("2: TOO BIG beyond 99,999,999 either way", PromiseBoundariesTest::constantTooBig);
        Checks.sentence("3: Register r is SYMBOL s: 1", PromiseBoundariesTest::symbol);
        Checks.sentence("4: the sum of registers x and y", PromiseBoundariesTest::plus);
        Checks.sentence("5: register x less y", PromiseBoundariesTest::minus);
        Checks.sentence("6: the product of registers x and y", PromiseBoundariesTest::times);
        Checks.sentence("7: register s PUT for each SYMBOL s", PromiseBoundariesTest::put);
        Checks.sentence("7: as they are ahead of it", PromiseBoundariesTest::putAheadOfIt);
        Checks.sentence("7: its terms in ORDER, added one by one", PromiseBoundariesTest::putSums);
        Checks.sentence("7: its coefficient, times the poly of each SYMBOL in turn", PromiseBoundariesTest::putProducts);
        Checks.sentence("7: once for each power", PromiseBoundariesTest::putPowers);
        Checks.sentence("8: How many terms register x has", PromiseBoundariesTest::size);
        Checks.sentence("9: Of term k, what -1 .. 15", PromiseBoundariesTest::term);
        Checks.sentence("9: 0 if there is none such", PromiseBoundariesTest::noTerm);
        Checks.sentence("10: the same poly (1, 0)", PromiseBoundariesTest::same);
        Checks.sentence("11: with n for each SYMBOL", PromiseBoundariesTest::value);
        Checks.sentence("11: going round in 64 bits", PromiseBoundariesTest::valueGoesRound);
        Checks.sentence("11: 0 if there is none such", PromiseBoundariesTest::noValue);
        Checks.sentence("12: one HYPOTHESIS more: its number", PromiseBoundariesTest::hypothesis);
        Checks.sentence("12: NONE if there are 40, too", PromiseBoundariesTest::fullOfHypotheses);
        Checks.sentence("13: The first n HYPOTHESES stay: n", PromiseBoundariesTest::keep);
        Checks.sentence("13: NONE if there are not so many, or n is below 0", PromiseBoundariesTest::keepNone);
        Checks.sentence("14: a number 0 .. 99,999,999", PromiseBoundariesTest::partNumbers);
        Checks.sentence("14: each a number 0 and more, or NONE", PromiseBoundariesTest::partHypotheses);
        Checks.sentence("14: NONE if there are 20, too", PromiseBoundariesTest::fullOfParts);
        Checks.sentence("15: Whether the TERMS SHOW register x: 1, 0", PromiseBoundariesTest::show);
        Checks.sentence("15: with the number k (1 .. 99,999,999)", PromiseBoundariesTest::showNumbers);
        Checks.sentence("15: TERMS are none then, whatever it answers but NONE", PromiseBoundariesTest::showTakesParts);
        Checks.sentence("15: NONE, and they stay: no such register or k", PromiseBoundariesTest::showNone);
        Checks.sentence("15: 0, too, if one of their HYPOTHESES is not there", PromiseBoundariesTest::showMissing);
        Checks.sentence("15: (asked ahead)", PromiseBoundariesTest::showAskedAhead);
        Checks.sentence("15: TOO BIG: k times it first", PromiseBoundariesTest::showRegisterTooBig);
        Checks.sentence("15: then TERMS: coefficients", PromiseBoundariesTest::showCoefficients);
        Checks.sentence("15: then TERMS: how many terms", PromiseBoundariesTest::showTerms);
        Checks.sentence("15: then TERMS: powers", PromiseBoundariesTest::showPowers);
        Checks.sentence("15: as they are worked", PromiseBoundariesTest::showAsTheyAreWorked);
        Checks.sentence("16: What 0: HYPOTHESES, 1: TERMS", PromiseBoundariesTest::count);
        Checks.sentence("16: NONE for another what", PromiseBoundariesTest::countNone);
        Checks.finish();
    }

    private static void newObject() {
        Map<String, List<Long>> state = new Scene(x -> { }).state();
        for (int r = 0; r < 16; r++) {
            Checks.hold("register " + r + " is 0", state.get("register " + r).isEmpty());
            Checks.due("nothing shows register " + r, new PolyDesk().show(r, 1), 1);
            Checks.due("value(" + r + ", 1)", new PolyDesk().value(r, 1), 0);
        }
        Checks.due("count(0)", new PolyDesk().count(0), 0);
        Checks.due("count(1)", new PolyDesk().count(1), 0);
        Checks.due("keep(0)", new PolyDesk().keep(0), 0);
        Checks.due("keep(1)", new PolyDesk().keep(1), -1);
        Checks.due("the first HYPOTHESIS", new PolyDesk().hypothesis(0), 0);
        Checks.due("the first TERM", new PolyDesk().part(1, -1, -1, -1, -1), 1);
    }

    private static void objectsOfTheirOwn() {
        PolyDesk x = Scene.furnished().desk();
        PolyDesk y = new PolyDesk();
        for (int r = 0; r < 16; r++) {
            Checks.due("size(" + r + ") of the other", y.size(r), 0);
        }
        Checks.due("count(0) of the other", y.count(0), 0);
        Checks.due("count(1) of the other", y.count(1), 0);
        y.constant(1, 3);
        y.hypothesis(1);
        y.show(1, 1);
        Checks.due("size(1) of the first", x.size(1), 2);
        Checks.due("count(0) of the first", x.count(0), 3);
        Checks.due("count(1) of the first", x.count(1), 3);
    }

    private static void constant() {
        int[] all = {0, 1, -1, MOST, -MOST, MOST - 1, 1 - MOST};
        for (int v : all) {
            Scene.furnished().changes("constant(4, " + v + ")", x -> x.constant(4, v), v == 0 ? 0 : 1, "register 4");
            PolyDesk x = Scene.furnished().desk();
            x.constant(4, v);
            Checks.due("size(4)", x.size(4), v == 0 ? 0 : 1);
            Checks.due("its coefficient", x.term(4, 0, -1), v);
            Checks.due("its value", x.value(4, 12), v);
            for (int s = 0; s < 16; s++) {
                Checks.due("its power of " + s, x.term(4, 0, s), 0);
            }
        }
    }

    private static void constantTooBig() {
        int[] all = {MOST + 1, -MOST - 1, MOST + 2, -MOST - 2, MAX, MIN, MIN + 1};
        for (int v : all) {
            Scene.furnished().refuses("constant(4, " + v + ")", x -> x.constant(4, v), -2);
            Scene.furnished().refuses("constant(16, " + v + ")", x -> x.constant(16, v), -1);
        }
    }

    private static void symbol() {
        for (int s = 0; s < 16; s++) {
            int one = s;
            Scene.furnished().changes("symbol(3, " + s + ")", x -> x.symbol(3, one), 1, "register 3");
            PolyDesk x = Scene.furnished().desk();
            x.symbol(3, s);
            Checks.due("size(3)", x.size(3), 1);
            Checks.due("its coefficient", x.term(3, 0, -1), 1);
            for (int other = 0; other < 16; other++) {
                Checks.due("its power of " + other, x.term(3, 0, other), other == s ? 1 : 0);
            }
        }
        Checks.due("symbol(15, 0)", new PolyDesk().symbol(15, 0), 1);
        Checks.due("symbol(0, 15)", new PolyDesk().symbol(0, 15), 1);
        Checks.due("symbol(0, 16)", new PolyDesk().symbol(0, 16), -1);
        Checks.due("symbol(16, 0)", new PolyDesk().symbol(16, 0), -1);
        Checks.due("symbol(0, -1)", new PolyDesk().symbol(0, -1), -1);
        Checks.due("symbol(-1, 0)", new PolyDesk().symbol(-1, 0), -1);
    }

    /** Register 0 is 3a + 2, register 1 is a - 5, register 2 is 0. */
    private static PolyDesk small() {
        PolyDesk x = new PolyDesk();
        Polys.more(x, 0, 3, 0);
        Polys.more(x, 0, 2);
        Polys.more(x, 1, 1, 0);
        Polys.more(x, 1, -5);
        return x;
    }

    private static void isPoly(String name, PolyDesk x, int r, int... coefficients) {
        Checks.due(name + ": size", x.size(r), coefficients.length);
        for (int k = 0; k < coefficients.length; k++) {
            Checks.due(name + ": coefficient " + k, x.term(r, k, -1), coefficients[k]);
        }
    }

    private static void plus() {
        int[][] to = {{9, 0, 1}, {0, 0, 1}, {1, 0, 1}, {9, 1, 0}, {15, 0, 1}};
        for (int[] n : to) {
            PolyDesk x = small();
            Checks.due("plus", x.plus(n[0], n[1], n[2]), 2);
            isPoly("3a + 2 + a - 5", x, n[0], 4, -3);
        }
        PolyDesk x = small();
        Checks.due("onto itself", x.plus(0, 0, 0), 2);
        isPoly("3a + 2 twice", x, 0, 6, 4);
        Checks.due("0 with 0", x.plus(9, 2, 3), 0);
        Checks.due("a register with 0", x.plus(9, 1, 2), 2);
        Checks.due("0 with a register", x.plus(9, 2, 1), 2);
        isPoly("a - 5", x, 9, 1, -5);
        x.minus(3, 2, 1);
        Checks.due("a register with its opposite", x.plus(1, 1, 3), 0);
        isPoly("0", x, 1);
    }

    private static void minus() {
        int[][] to = {{9, 0, 1}, {0, 0, 1}, {1, 0, 1}, {15, 0, 1}};
        for (int[] n : to) {
            PolyDesk x = small();
            Checks.due("minus", x.minus(n[0], n[1], n[2]), 2);
            isPoly("3a + 2 less a - 5", x, n[0], 2, 7);
        }
        PolyDesk x = small();
        Checks.due("the other way", x.minus(9, 1, 0), 2);
        isPoly("a - 5 less 3a + 2", x, 9, -2, -7);
        Checks.due("0 less 0", x.minus(9, 2, 3), 0);
        Checks.due("a register less 0", x.minus(9, 1, 2), 2);
        isPoly("a - 5", x, 9, 1, -5);
        Checks.due("0 less a register", x.minus(9, 2, 1), 2);
        isPoly("5 - a", x, 9, -1, 5);
        Checks.due("a register less itself", x.minus(0, 0, 0), 0);
        isPoly("0", x, 0);
    }

    private static void times() {
        int[][] to = {{9, 0, 1}, {0, 0, 1}, {1, 0, 1}, {9, 1, 0}, {15, 0, 1}};
        for (int[] n : to) {
            PolyDesk x = small();
            Checks.due("times", x.times(n[0], n[1], n[2]), 3);
            isPoly("(3a + 2)(a - 5)", x, n[0], 3, -13, -10);
        }
        PolyDesk x = small();
        Checks.due("onto itself", x.times(0, 0, 0), 3);
        isPoly("(3a + 2)(3a + 2)", x, 0, 9, 12, 4);
        Checks.due("0 by 0", x.times(9, 2, 3), 0);
        Checks.due("a register by 0", x.times(9, 1, 2), 0);
        Checks.due("0 by a register", x.times(9, 2, 1), 0);
        x.constant(3, 1);
        Checks.due("by 1", x.times(9, 1, 3), 2);
        isPoly("a - 5", x, 9, 1, -5);
        x.constant(3, -1);
        Checks.due("by -1", x.times(1, 3, 1), 2);
        isPoly("5 - a", x, 1, -1, 5);
    }

    private static void put() {
        for (int s = 0; s < 16; s++) {
            PolyDesk x = new PolyDesk();
            int other = (s + 1) % 16;
            x.symbol(other, s);
            x.constant(s, 41);
            Checks.due("41 for symbol " + s, x.put(other, other), 1);
            isPoly("41", x, other, 41);
            x.symbol(other, s);
            x.constant(s, 0);
            Checks.due("0 for symbol " + s, x.put(other, other), 0);
            isPoly("0", x, other);
        }
        PolyDesk x = new PolyDesk();
        Checks.due("put of 0", x.put(1, 0), 0);
        x.constant(0, 8);
        Checks.due("put of a bare number", x.put(1, 0), 1);
        isPoly("8", x, 1, 8);
        Polys.terms(x, 13, 60);
        for (int s = 0; s < 8; s++) {
            x.symbol(s, s + 8);
        }
        Checks.due("60 terms with other symbols", x.put(12, 13), 60);
        Checks.due("the first", x.term(12, 0, 8), 5);
        Checks.due("the last", x.term(12, 59, 15), 1);
        x.symbol(12, 12);
        x.symbol(3, 3);
        x.plus(3, 3, 12);
        Checks.due("d + m with d + m for d and m for m", x.put(4, 3), 2);
        isPoly("d + 2m", x, 4, 1, 2);
    }

    private static void putAheadOfIt() {
        PolyDesk x = new PolyDesk();
        Polys.more(x, 0, 1, 0, 0);
        Polys.more(x, 0, 1, 1);
        x.constant(1, 3);
        Checks.due("aa + b onto register 0", x.put(0, 0), 4);
        isPoly("(aa + b)(aa + b) + 3", x, 0, 1, 2, 1, 3);
        Checks.due("register 1 stays", x.term(1, 0, -1), 3);
        Polys.monomial(x, 2, 3, 1, 0, 1);
        x.constant(0, 5);
        Checks.due("ab onto register 1", x.put(1, 2), 1);
        isPoly("15", x, 1, 15);
        Checks.due("ab onto register 0", x.put(0, 2), 1);
        isPoly("75", x, 0, 75);
        Scene.furnished().changes("onto register 5 alone", y -> y.put(5, 5), 2, "register 5");
    }

    /** The put leads to so many terms in register r and changes nothing else; or it is refused. */
    private static void putChanges(Scene scene, String name, int r, int x, int answer) {
        if (answer < 0) {
            scene.refuses(name, y -> y.put(r, x), answer);
        } else {
            scene.changes(name, y -> y.put(r, x), answer, "register " + r);
        }
    }

    /** Puts numbers for the symbols of a sum of symbols. */
    private static void putNumbers(String name, int answer, int... numbers) {
        Scene scene = Scene.furnished().with(x -> {
            x.constant(15, 0);
            for (int s = 0; s < numbers.length; s++) {
                x.symbol(14, s);
                x.plus(15, 15, 14);
            }
            for (int s = 0; s < numbers.length; s++) {
                x.constant(s, numbers[s]);
            }
        });
        putChanges(scene, name, 13, 15, answer);
        if (answer >= 0) {
            PolyDesk x = scene.desk();
            x.put(13, 15);
            Checks.due(name + ": the sum", x.value(13, 1), Arrays.stream(numbers).sum());
        }
    }

    private static void putSums() {
        putNumbers("a sum on the way is MOST", 1, MOST - 1, 1, -5);
        putNumbers("a sum on the way is MOST + 1", -2, MOST - 1, 2, -5);
        putNumbers("a sum on the way is -MOST", 1, 1 - MOST, -1, 5);
        putNumbers("a sum on the way is -MOST - 1", -2, 1 - MOST, -2, 5);
        putNumbers("less ahead of more", 1, MOST - 1, -5, 2);
        putNumbers("the last sum is MOST", 1, MOST - 1, -5, 6);
        putNumbers("the last sum is MOST + 1", -2, MOST - 1, -5, 7);
        putNumbers("the last sum is 0", 0, MOST, -MOST);
        for (int over = 0; over <= 1; over++) {
            int more = over;
            Scene scene = Scene.furnished().with(x -> {
                x.symbol(0, 0);
                x.symbol(1, 1);
                x.symbol(2, 2);
                x.plus(3, 0, 1);
                x.plus(3, 3, 2);
                Polys.terms(x, 0, 59 + more);
                x.constant(1, 1);
                x.constant(2, -1);
            });
            if (over == 0) {
                scene.changes("60 terms on the way", x -> x.put(9, 3), 59, "register 9");
            } else {
                scene.refuses("61 terms on the way", x -> x.put(9, 3), -2);
            }
        }
        greaterSumsFirst();
    }

    private static void greaterSumsFirst() {
        for (int sign = -1; sign <= 1; sign += 2) {
            int v = sign;
            Scene scene = Scene.furnished().with(x -> {
                x.constant(5, 60000000);
                Polys.more(x, 5, -60000000, 4);
                Polys.more(x, 5, 60000000, 2, 3);
                x.constant(2, 1);
                x.constant(3, 1);
                x.constant(4, v);
            });
            putChanges(scene, "60,000,000, then " + v + " times less, then more", 6, 5, v < 0 ? -2 : 1);
        }
    }

    /** Puts numbers for symbols 0 and 1 of one term, onto register 3. */
    private static void putProduct(String name, int answer, int[] numbers, int... symbols) {
        Scene scene = Scene.furnished().with(x -> {
            Polys.monomial(x, 2, 3, numbers[0], symbols);
            x.symbol(3, 8);
            x.constant(0, numbers[1]);
            x.constant(1, numbers[2]);
        });
        putChanges(scene, name, 3, 2, answer);
    }

    private static void putProducts() {
        putProduct("MOST on the way, then 0", 0, new int[] {9999, 10001, 0}, 0, 1);
        putProduct("MOST + 1 on the way, then 0", -2, new int[] {10000, 10000, 0}, 0, 1);
        putProduct("-MOST on the way, then 0", 0, new int[] {-9999, 10001, 0}, 0, 1);
        putProduct("-MOST - 1 on the way, then 0", -2, new int[] {-10000, 10000, 0}, 0, 1);
        putProduct("0, then what would be MOST + 1", 0, new int[] {10000, 0, 10000}, 0, 1);
        putProduct("symbol 0 twice, then symbol 1", -2, new int[] {1, 10000, 0}, 0, 0, 1);
        putProduct("symbol 0, then symbol 1 twice", 0, new int[] {1, 0, 10000}, 0, 1, 1);
        putProduct("MOST by 1 by 1", 1, new int[] {MOST, 1, 1}, 0, 1);
        putProduct("MOST by -1 by -1", 1, new int[] {MOST, -1, -1}, 0, 1);
        putProduct("MOST by 2", -2, new int[] {MOST, 2, 1}, 0);
        putProduct("MOST alone", 1, new int[] {MOST, 2, 2});
    }

    private static void putPowers() {
        for (int power = 0; power <= 9; power++) {
            PolyDesk x = new PolyDesk();
            Polys.power(x, 1, 2, 0, power);
            x.constant(0, 2);
            Checks.due("2 for a to the power " + power, x.put(3, 1), 1);
            isPoly("2 to the power " + power, x, 3, 1 << power);
            x.symbol(0, 7);
            Checks.due("h for a to the power " + power, x.put(3, 1), 1);
            Checks.due("its power of h", x.term(3, 0, 7), power);
        }
        PolyDesk x = new PolyDesk();
        Polys.power(x, 1, 2, 0, 4);
        x.constant(0, 99);
        Checks.due("99 for aaaa", x.put(3, 1), 1);
        isPoly("96,059,601", x, 3, 96059601);
        Scene scene = Scene.furnished().with(y -> Polys.power(y, 1, 2, 0, 4));
        putChanges(scene.with(y -> y.constant(0, 99)), "99 for aaaa", 3, 1, 1);
        putChanges(scene.with(y -> y.constant(0, 100)), "100 for aaaa", 3, 1, -2);
    }

    private static void size() {
        int[] all = {1, 4, 10, 59, 60};
        for (int howMany : all) {
            PolyDesk x = new PolyDesk();
            Polys.terms(x, 0, howMany);
            Checks.due("size(0)", x.size(0), howMany);
            Checks.due("the last term is there", x.term(0, howMany - 1, -1), 1);
            Checks.due("the next one is not", x.term(0, howMany, -1), 0);
        }
        Scene scene = Scene.furnished();
        scene.refuses("size(-1)", x -> x.size(-1), -1);
        scene.refuses("size(0)", x -> x.size(0), 1);
        scene.refuses("size(15)", x -> x.size(15), 2);
        scene.refuses("size(16)", x -> x.size(16), -1);
        Checks.due("size of 0", new PolyDesk().size(15), 0);
    }

    private static void term() {
        PolyDesk x = new PolyDesk();
        Polys.more(x, 3, -MOST, 0, 0, 0, 0, 0, 0, 0, 0, 0, 15);
        Polys.more(x, 3, MOST, 0, 15, 15, 15, 15, 15, 15, 15, 15, 15);
        Polys.more(x, 3, -1);
        Checks.due("term(3, 0, -1)", x.term(3, 0, -1), -MOST);
        Checks.due("term(3, 1, -1)", x.term(3, 1, -1), MOST);
        Checks.due("term(3, 2, -1)", x.term(3, 2, -1), -1);
        Checks.due("term(3, 0, 0)", x.term(3, 0, 0), 9);
        Checks.due("term(3, 0, 1)", x.term(3, 0, 1), 0);
        Checks.due("term(3, 0, 14)", x.term(3, 0, 14), 0);
        Checks.due("term(3, 0, 15)", x.term(3, 0, 15), 1);
        Checks.due("term(3, 1, 0)", x.term(3, 1, 0), 1);
        Checks.due("term(3, 1, 15)", x.term(3, 1, 15), 9);
        Checks.due("term(3, 2, 0)", x.term(3, 2, 0), 0);
        Checks.due("term(3, 2, 15)", x.term(3, 2, 15), 0);
        Polys.terms(x, 4, 60);
        Checks.due("term(4, 59, -1)", x.term(4, 59, -1), 1);
        Checks.due("term(4, 59, 7)", x.term(4, 59, 7), 1);
        Checks.due("term(4, 56, 4)", x.term(4, 56, 4), 1);
        Checks.due("term(4, 55, 3)", x.term(4, 55, 3), 5);
        Scene.furnished().refuses("term(1, 0, -1)", y -> y.term(1, 0, -1), 3);
    }

    private static void noTerm() {
        Scene scene = Scene.furnished().with(x -> Polys.power(x, 3, 4, 0, 9));
        int[] noTerm = {-1, 1, 2, 59, 60, 61, MIN, MAX};
        for (int k : noTerm) {
            scene.refuses("term(3, " + k + ", -1)", x -> x.term(3, k, -1), 0);
            scene.refuses("term(3, " + k + ", 0)", x -> x.term(3, k, 0), 0);
        }
        int[] noWhat = {-2, 16, 17, -3, MIN, MAX};
        for (int what : noWhat) {
            scene.refuses("term(3, 0, " + what + ")", x -> x.term(3, 0, what), 0);
        }
        for (int r : Polys.NO_REGISTER) {
            scene.refuses("term(" + r + ", 0, -1)", x -> x.term(r, 0, -1), 0);
            scene.refuses("term(" + r + ", 0, 0)", x -> x.term(r, 0, 0), 0);
        }
        PolyDesk x = new PolyDesk();
        Polys.terms(x, 0, 60);
        Checks.due("term(0, 60, -1)", x.term(0, 60, -1), 0);
        Polys.terms(x, 0, 59);
        Checks.due("term(0, 59, -1) of 59", x.term(0, 59, -1), 0);
        x.constant(0, 0);
        Checks.due("term(0, 0, -1) of 0", x.term(0, 0, -1), 0);
    }

    private static void same() {
        int[][] kinds = {{0, 0}, {0, 1}, {15}, {}};
        for (int differs = 0; differs < kinds.length; differs++) {
            PolyDesk x = new PolyDesk();
            for (int k = 0; k < kinds.length; k++) {
                Polys.more(x, 0, 4, kinds[k]);
                Polys.more(x, 1, 4, kinds[kinds.length - 1 - k]);
            }
            Checks.due("the same in another order", x.same(0, 1), 1);
            Polys.more(x, 1, 1, kinds[differs]);
            Checks.due("term " + differs + " is more by 1", x.same(0, 1), 0);
            Polys.more(x, 1, -2, kinds[differs]);
            Checks.due("term " + differs + " is less by 1", x.same(1, 0), 0);
            Polys.more(x, 1, -3, kinds[differs]);
            Checks.due("term " + differs + " is gone", x.same(0, 1), 0);
            Checks.due("term " + differs + " is gone, the other way", x.same(1, 0), 0);
            Polys.more(x, 1, 4, 8);
            Checks.due("another for term " + differs, x.same(0, 1), 0);
            Checks.due("it and itself", x.same(1, 1), 1);
        }
        PolyDesk x = new PolyDesk();
        Checks.due("0 and 0", x.same(0, 15), 1);
        x.constant(0, 1);
        Checks.due("1 and 0", x.same(0, 15), 0);
        Checks.due("0 and 1", x.same(15, 0), 0);
        x.constant(15, -1);
        Checks.due("1 and -1", x.same(0, 15), 0);
        Scene.furnished().refuses("same(1, 2)", y -> y.same(1, 2), 0);
        Scene.furnished().refuses("same(2, 2)", y -> y.same(2, 2), 1);
    }

    private static void value() {
        PolyDesk x = new PolyDesk();
        Polys.more(x, 0, 2, 0, 7, 15);
        Polys.more(x, 0, -3, 1, 1);
        Polys.more(x, 0, 10);
        int[] all = {0, 1, -1, 2, -2, 46341, -46341, MAX, MIN};
        for (int n : all) {
            long m = n;
            Checks.due("value(0, " + n + ")", x.value(0, n), 2 * m * m * m - 3 * m * m + 10);
        }
        x.symbol(1, 3);
        Checks.due("value(1, 0)", x.value(1, 0), 0);
        Checks.due("value(1, MAX)", x.value(1, MAX), MAX);
        Checks.due("value(1, MIN)", x.value(1, MIN), MIN);
        x.constant(1, -MOST);
        Checks.due("a bare number with 0", x.value(1, 0), -MOST);
        Checks.due("a bare number with MIN", x.value(1, MIN), -MOST);
        Scene.furnished().refuses("value(1, 10)", y -> y.value(1, 10), 32);
    }

    /** Register 0 becomes a product of symbols, so many in all. */
    private static PolyDesk degree(int sum) {
        PolyDesk x = new PolyDesk();
        x.constant(0, 1);
        for (int n = 0; n < sum; n++) {
            x.symbol(1, n % 16);
            x.times(0, 0, 1);
        }
        x.constant(2, 1);
        return x;
    }

    private static void valueGoesRound() {
        PolyDesk x = degree(62);
        Checks.due("2 to the power 62", x.value(0, 2), 1L << 62);
        x = degree(63);
        Checks.due("2 to the power 63", x.value(0, 2), Long.MIN_VALUE);
        Checks.due("-2 to the power 63", x.value(0, -2), Long.MIN_VALUE);
        x.minus(3, 0, 2);
        Checks.due("2 to the power 63, less 1", x.value(3, 2), Long.MAX_VALUE);
        Checks.due("-2 to the power 63, less 1", x.value(3, -2), Long.MAX_VALUE);
        x.plus(3, 0, 2);
        Checks.due("2 to the power 63, and 1", x.value(3, 2), Long.MIN_VALUE + 1);
        x = degree(64);
        Checks.due("2 to the power 64", x.value(0, 2), 0);
        x.minus(3, 0, 2);
        Checks.due("2 to the power 64, less 1", x.value(3, 2), -1);
        x.plus(3, 0, 2);
        Checks.due("2 to the power 64, and 1", x.value(3, 2), 1);
        x = degree(144);
        Checks.due("3 to the power 144", x.value(0, 3), BigInteger.valueOf(3).pow(144).longValue());
        Checks.due("MAX to the power 144", x.value(0, MAX), BigInteger.valueOf(MAX).pow(144).longValue());
        Checks.due("-1 to the power 144", x.value(0, -1), 1);
        Checks.due("0 to the power 144", x.value(0, 0), 0);
        x = degree(2);
        Checks.due("MIN to the power 2", x.value(0, MIN), 1L << 62);
        x = degree(3);
        Checks.due("MIN to the power 3", x.value(0, MIN), BigInteger.valueOf(MIN).pow(3).longValue());
        Checks.due("MAX to the power 3", x.value(0, MAX), BigInteger.valueOf(MAX).pow(3).longValue());
    }

    private static void noValue() {
        Scene scene = Scene.furnished();
        for (int r : Polys.NO_REGISTER) {
            scene.refuses("value(" + r + ", 0)", x -> x.value(r, 0), 0);
            scene.refuses("value(" + r + ", 3)", x -> x.value(r, 3), 0);
        }
        scene.refuses("value(0, 3)", x -> x.value(0, 3), 5);
        scene.refuses("value(15, 3)", x -> x.value(15, 3), 67);
    }

    private static Scene withHypotheses(int howMany) {
        return Scene.furnished().with(x -> {
            x.keep(0);
            for (int h = 0; h < howMany; h++) {
                x.hypothesis(h % 16);
            }
        });
    }

    private static void hypothesis() {
        int[] all = {0, 1, 2, 37, 38, 39};
        for (int before : all) {
            Scene scene = withHypotheses(before).with(x -> x.show(0, 1));
            scene.changes("hypothesis(6) behind " + before, x -> x.hypothesis(6), before, "count(0)",
                    "hypothesis " + before);
            PolyDesk x = scene.desk();
            x.hypothesis(6);
            Checks.due("count(0)", x.count(0), before + 1);
            x.symbol(6, 6);
            x.symbol(7, 6);
            x.constant(8, 8);
            x.times(7, 7, 8);
            x.constant(8, 7);
            x.plus(7, 7, 8);
            x.part(1, before, -1, -1, -1);
            Checks.due("it is as register 6 was", x.show(7, 1), 1);
        }
        PolyDesk x = new PolyDesk();
        Checks.due("0 is a HYPOTHESIS, too", x.hypothesis(0), 0);
        Checks.due("the same once more", x.hypothesis(0), 1);
        Polys.terms(x, 0, 60);
        Checks.due("60 terms", x.hypothesis(0), 2);
    }

    private static void fullOfHypotheses() {
        for (int r = 0; r < 16; r += 15) {
            int one = r;
            withHypotheses(40).refuses("the 41st, register " + r, x -> x.hypothesis(one), -1);
        }
        PolyDesk x = withHypotheses(40).desk();
        x.hypothesis(3);
        x.keep(39);
        Checks.due("the 40th again", x.hypothesis(3), 39);
        Checks.due("the 41st again", x.hypothesis(3), -1);
        x.keep(0);
        Checks.due("the first again", x.hypothesis(3), 0);
    }

    private static void keep() {
        Scene scene = withHypotheses(40).with(x -> x.show(0, 1));
        for (int n : new int[] {0, 1, 20, 39, 40}) {
            scene.leads("keep(" + n + ") of 40", x -> x.keep(n), n, withHypotheses(n).with(x -> x.show(0, 1)));
            PolyDesk x = scene.desk();
            x.keep(n);
            Checks.due("count(0)", x.count(0), n);
            Checks.due("the next one", n < 40 ? x.hypothesis(0) : n, n);
        }
        Scene.furnished().refuses("keep(3) of 3", x -> x.keep(3), 3);
        Scene.furnished().changes("keep(2) of 3", x -> x.keep(2), 2, "count(0)", "hypothesis 2", "TERMS");
        PolyDesk x = Scene.furnished().desk();
        x.keep(0);
        Checks.due("TERMS stay", x.count(1), 3);
        Checks.due("keep(0) of none", x.keep(0), 0);
    }

    private static void keepNone() {
        for (int howMany : new int[] {0, 1, 39, 40}) {
            Scene scene = withHypotheses(howMany);
            scene.refuses("keep(-1)", x -> x.keep(-1), -1);
            scene.refuses("keep(MIN)", x -> x.keep(MIN), -1);
            scene.refuses("keep of one more", x -> x.keep(howMany + 1), -1);
            scene.refuses("keep(41)", x -> x.keep(41), -1);
            scene.refuses("keep(MAX)", x -> x.keep(MAX), -1);
        }
        Scene.furnished().with(x -> x.keep(2)).refuses("keep(3) behind keep(2)", x -> x.keep(3), -1);
    }

    private static void partNumbers() {
        Scene scene = Scene.furnished();
        scene.refuses("part(-1, ..)", x -> x.part(-1, -1, -1, -1, -1), -1);
        scene.refuses("part(MIN, ..)", x -> x.part(MIN, -1, -1, -1, -1), -1);
        scene.refuses("part(MOST + 1, ..)", x -> x.part(MOST + 1, -1, -1, -1, -1), -1);
        scene.refuses("part(MAX, ..)", x -> x.part(MAX, -1, -1, -1, -1), -1);
        scene.changes("part(0, ..)", x -> x.part(0, -1, -1, -1, -1), 4, "count(1)");
        scene.changes("part(1, ..)", x -> x.part(1, -1, -1, -1, -1), 4, "count(1)", "TERMS");
        for (int n : new int[] {0, 1, MOST - 1, MOST}) {
            PolyDesk x = new PolyDesk();
            Checks.due("part(" + n + ", ..)", x.part(n, -1, -1, -1, -1), 1);
            x.constant(0, n);
            Checks.due("it shows " + n, x.show(0, 1), 1);
        }
    }

    private static void partHypotheses() {
        Scene scene = Scene.furnished();
        for (int place = 0; place < 4; place++) {
            for (int h : new int[] {-2, -3, MIN}) {
                int[] n = {-1, -1, -1, -1};
                n[place] = h;
                scene.refuses("part with " + h + " at " + place, x -> x.part(1, n[0], n[1], n[2], n[3]), -1);
            }
            for (int h : new int[] {-1, 0, 2, 3, 39, 40, MAX}) {
                int[] n = {-1, -1, -1, -1};
                n[place] = h;
                scene.changes("part with " + h + " at " + place, x -> x.part(1, n[0], n[1], n[2], n[3]), 4,
                        "count(1)", "TERMS");
            }
        }
        PolyDesk x = new PolyDesk();
        Checks.due("of one that is not there yet", x.part(1, 0, 1, 2, 3), 1);
        x.constant(0, 3);
        for (int h = 0; h < 4; h++) {
            x.hypothesis(0);
        }
        x.constant(0, 81);
        Checks.due("they are there now", x.show(0, 1), 1);
    }

    private static Scene withParts(int howMany) {
        return Scene.furnished().with(x -> {
            for (int p = 3; p < howMany; p++) {
                x.part(0, 0, 1, 2, -1);
            }
        });
    }

    private static void fullOfParts() {
        Checks.due("18 and one", withParts(18).desk().part(1, -1, -1, -1, -1), 19);
        Checks.due("19 and one", withParts(19).desk().part(1, -1, -1, -1, -1), 20);
        withParts(20).refuses("20 and one", x -> x.part(1, -1, -1, -1, -1), -1);
        withParts(20).refuses("20 and one with 0", x -> x.part(0, -1, -1, -1, -1), -1);
        PolyDesk x = withParts(20).desk();
        x.part(1, -1, -1, -1, -1);
        Checks.due("count(1)", x.count(1), 20);
        x.show(0, 1);
        for (int p = 1; p <= 20; p++) {
            Checks.due("one again", x.part(1, -1, -1, -1, -1), p);
        }
        Checks.due("the 21st again", x.part(1, -1, -1, -1, -1), -1);
        x.constant(0, 20);
        Checks.due("twenty of them", x.show(0, 1), 1);
    }

    private static void show() {
        PolyDesk x = new PolyDesk();
        Checks.due("no TERMS, and 0", x.show(0, 1), 1);
        x.constant(0, 1);
        Checks.due("no TERMS, and 1", x.show(0, 1), 0);
        for (int n = 4; n <= 6; n++) {
            x.constant(0, 5);
            x.part(n, -1, -1, -1, -1);
            Checks.due(n + " for 5", x.show(0, 1), n == 5 ? 1 : 0);
            x.constant(0, -5);
            x.part(n, -1, -1, -1, -1);
            Checks.due(n + " for -5", x.show(0, 1), 0);
        }
        x.part(0, -1, -1, -1, -1);
        Checks.due("0 and 0", x.show(1, 1), 1);
        x.symbol(2, 15);
        x.hypothesis(2);
        x.part(1, 0, -1, -1, -1);
        Checks.due("p and p", x.show(2, 1), 1);
        x.symbol(2, 14);
        x.part(1, 0, -1, -1, -1);
        Checks.due("p and o", x.show(2, 1), 0);
        x.part(1, 0, -1, -1, -1);
        x.part(1, -1, -1, -1, -1);
        x.symbol(2, 15);
        Checks.due("p + 1 and p", x.show(2, 1), 0);
        Checks.due("register 2 stays", x.term(2, 0, 15), 1);
    }

    private static void showNumbers() {
        int[] all = {1, 2, MOST - 1, MOST};
        for (int k : all) {
            PolyDesk x = new PolyDesk();
            x.constant(0, 1);
            x.hypothesis(0);
            x.part(k, 0, -1, -1, -1);
            Checks.due("k is " + k, x.show(0, k), 1);
            x.part(k - 1, 0, -1, -1, -1);
            Checks.due("k is " + k + ", the number is less", x.show(0, k), 0);
            x.constant(0, -1);
            x.part(k, 0, -1, -1, -1);
            Checks.due("k is " + k + ", the register is -1", x.show(0, k), 0);
        }
        PolyDesk x = new PolyDesk();
        Checks.due("k times 0, MOST", x.show(0, MOST), 1);
        Polys.more(x, 0, 1, 3, 4);
        Polys.more(x, 0, -1, 5);
        x.hypothesis(0);
        x.part(MOST, 0, -1, -1, -1);
        Checks.due("k times each of two terms, MOST", x.show(0, MOST), 1);
    }

    private static void showTakesParts() {
        Scene none = Scene.furnished().with(x -> Polys.more(x, 4, MOST, 0));
        none.changes("answers 0", x -> x.show(1, 1), 0, "count(1)", "TERMS");
        none.changes("answers 0, for one that is not there", x -> {
            x.part(1, 3, -1, -1, -1);
            return x.show(1, 1);
        }, 0, "count(1)", "TERMS");
        none.changes("answers -2, k times it", x -> x.show(4, 2), -2, "count(1)", "TERMS");
        none.changes("answers -2, a TERM", x -> {
            x.part(MOST, 0, -1, -1, -1);
            return x.show(1, 1);
        }, -2, "count(1)", "TERMS");
        Scene.furnished().with(x -> {
            x.constant(9, 7);
            x.hypothesis(9);
            x.show(0, 1);
            x.part(1, 3, -1, -1, -1);
            x.part(0, -1, -1, -1, -1);
        }).changes("answers 1", x -> x.show(9, 1), 1, "count(1)", "TERMS");
        PolyDesk x = none.desk();
        x.show(4, 2);
        Checks.due("the next TERM is the first", x.part(4, -1, -1, -1, -1), 1);
        x.constant(0, 4);
        Checks.due("and alone", x.show(0, 1), 1);
        Checks.due("no TERMS are left", x.show(0, 1), 0);
    }

    private static void showNone() {
        Scene scene = Scene.furnished();
        for (int r : Polys.NO_REGISTER) {
            scene.refuses("show(" + r + ", 1)", x -> x.show(r, 1), -1);
        }
        for (int k : new int[] {0, -1, MOST + 1, MIN, MAX}) {
            scene.refuses("show(1, " + k + ")", x -> x.show(1, k), -1);
        }
        Scene missing = scene.with(x -> x.part(1, 3, -1, -1, -1));
        missing.refuses("show(16, 1), one is not there", x -> x.show(16, 1), -1);
        missing.refuses("show(1, 0), one is not there", x -> x.show(1, 0), -1);
        Scene big = scene.with(x -> x.part(MOST, 0, -1, -1, -1));
        big.refuses("show(16, 1), a TERM too big", x -> x.show(16, 1), -1);
        big.refuses("show(1, 0), a TERM too big", x -> x.show(1, 0), -1);
    }

    /** Whether a TERM with HYPOTHESIS h at one of four places is there, of so many HYPOTHESES. */
    private static void missing(int howMany, int place, int h, int want) {
        PolyDesk x = new PolyDesk();
        x.constant(0, 1);
        for (int n = 0; n < howMany; n++) {
            x.hypothesis(0);
        }
        int[] n = {-1, -1, -1, -1};
        n[place] = h;
        x.part(1, n[0], n[1], n[2], n[3]);
        Checks.due("HYPOTHESIS " + h + " of " + howMany + " at " + place, x.show(0, 1), want);
        Checks.due("TERMS are none", x.count(1), 0);
        Checks.due("HYPOTHESES stay", x.count(0), howMany);
        x.part(0, n[0], n[1], n[2], n[3]);
        Checks.due("0 times it", x.show(2, 1), want);
    }

    private static void showMissing() {
        for (int place = 0; place < 4; place++) {
            missing(0, place, 0, 0);
            missing(1, place, 0, 1);
            missing(1, place, 1, 0);
            missing(2, place, 1, 1);
            missing(39, place, 38, 1);
            missing(39, place, 39, 0);
            missing(40, place, 39, 1);
            missing(40, place, 40, 0);
            missing(40, place, MAX, 0);
        }
        for (int at = 0; at < 20; at++) {
            PolyDesk x = new PolyDesk();
            for (int p = 0; p < 20; p++) {
                x.part(0, -1, -1, -1, p == at ? 0 : -1);
            }
            Checks.due("one of 20 TERMS, " + at, x.show(0, 1), 0);
        }
    }

    private static void showAskedAhead() {
        Consumer<PolyDesk> big = x -> {
            x.constant(0, MOST);
            x.hypothesis(0);
        };
        PolyDesk x = new Scene(big).desk();
        x.part(1, 1, -1, -1, -1);
        Checks.due("ahead of k times it", x.show(0, 2), 0);
        x.part(2, 0, -1, -1, -1);
        x.part(1, 1, -1, -1, -1);
        Checks.due("ahead of a TERM ahead of it", x.show(1, 1), 0);
        x.part(2, 0, 1, -1, -1);
        Checks.due("ahead of its own TERM", x.show(1, 1), 0);
        x.part(1, 0, -1, -1, -1);
        x.part(1, 0, -1, -1, -1);
        x.part(1, -1, -1, -1, 1);
        Checks.due("ahead of a sum", x.show(1, 1), 0);
        x.hypothesis(1);
        x.part(2, 0, -1, -1, -1);
        x.part(1, 1, -1, -1, -1);
        Checks.due("it is there: too big", x.show(1, 1), -2);
    }

    /** The show has this answer, takes the TERMS away and changes nothing else. */
    private static void showChanges(Scene scene, String name, int x, int k, int answer) {
        scene.changes(name, y -> y.show(x, k), answer, "count(1)", "TERMS");
    }

    private static void showTimes(String name, int answer, int number, int k) {
        Scene scene = Scene.furnished().with(x -> {
            x.constant(0, 1);
            Polys.more(x, 0, number, 4, 4);
        });
        showChanges(scene, name, 0, k, answer);
    }

    private static void showRegisterTooBig() {
        showTimes("MOST - 1", 0, 49999999, 2);
        showTimes("MOST", 0, 9999, 10001);
        showTimes("MOST + 1", -2, 10000, 10000);
        showTimes("-MOST", 0, -9999, 10001);
        showTimes("-MOST - 1", -2, -10000, 10000);
        showTimes("MOST times MOST", -2, MOST, MOST);
        showTimes("MOST times 1", 0, MOST, 1);
        showTimes("1 times MOST", 0, 1, MOST);
        Scene sixty = Scene.furnished().with(x -> Polys.terms(x, 0, 60));
        showChanges(sixty, "60 terms, one of them 60, by 1666666", 0, 1666666, 0);
        showChanges(sixty, "60 terms, one of them 60, by 1666667", 0, 1666667, -2);
        Scene nines = Scene.furnished().with(x -> Polys.allNines(x, 0, 1));
        showChanges(nines, "every power 9", 0, MOST, 0);
    }

    /** Shows 0 by TERMS, each a number and perhaps a HYPOTHESIS: 10001, 10000, -1, 49999999. */
    private static void showParts(String name, int answer, int... numbersAndHypotheses) {
        Scene scene = Scene.furnished().with(x -> {
            x.show(0, 1);
            for (int v : new int[] {10001, 10000, -1, 49999999}) {
                x.constant(0, v);
                x.hypothesis(0);
            }
            x.constant(0, 0);
            for (int n = 0; n < numbersAndHypotheses.length; n += 2) {
                int h = numbersAndHypotheses[n + 1];
                x.part(numbersAndHypotheses[n], h < 0 ? -1 : h + 3, -1, -1, -1);
            }
        });
        if (answer == 1) {
            // TERMS whose sum is 0 show what no TERMS show.
            scene.changes(name, x -> x.show(0, 1), 1, "count(1)");
        } else {
            showChanges(scene, name, 0, 1, answer);
        }
    }

    private static void showCoefficients() {
        showParts("a TERM of MOST - 1", 0, 2, 3);
        showParts("a TERM of MOST", 0, 9999, 0);
        showParts("a TERM of MOST + 1", -2, 10000, 1);
        showParts("a sum of MOST", 0, MOST - 1, -1, 1, -1);
        showParts("a sum of MOST + 1", -2, MOST - 1, -1, 2, -1);
        showParts("a sum of -MOST", 0, MOST - 1, 2, 1, 2);
        showParts("a sum of -MOST - 1", -2, MOST - 1, 2, 2, 2);
        showParts("MOST, then less", 1, MOST, -1, MOST, 2);
        showParts("-MOST, then more", 1, MOST, 2, MOST, -1);
        showParts("MOST + 1, then less", -2, MOST, -1, 1, -1, MOST, 2, 1, 2);
        showParts("MOST, less, more, less", 1, MOST, -1, 1, 2, 1, -1, MOST, 2);
    }

    private static void showTerms() {
        for (int howMany = 59; howMany <= 60; howMany++) {
            PolyDesk x = new PolyDesk();
            Polys.terms(x, 0, howMany);
            x.hypothesis(0);
            x.constant(1, -1);
            x.hypothesis(1);
            x.part(1, 0, -1, -1, -1);
            Checks.due(howMany + " terms", x.show(0, 1), 1);
            x.part(1, 0, -1, -1, -1);
            x.part(1, -1, -1, -1, -1);
            x.part(1, 1, -1, -1, -1);
            Checks.due(howMany + " terms and one that goes", x.show(0, 1), howMany == 59 ? 1 : -2);
            x.part(1, -1, -1, -1, -1);
            x.part(1, 1, -1, -1, -1);
            x.part(1, 0, -1, -1, -1);
            Checks.due("one that goes, and " + howMany + " terms", x.show(0, 1), 1);
        }
        showTermsOfProducts(30, true, 59);
        showTermsOfProducts(30, false, 60);
        showTermsOfProducts(31, true, 61);
    }

    private static void showTermsOfProducts(int first, boolean onePair, int howMany) {
        PolyDesk x = new PolyDesk();
        Polys.terms(x, 0, onePair ? first - 1 : first);
        if (onePair) {
            Polys.more(x, 0, 1, 4, 15);
        }
        x.hypothesis(0);
        x.symbol(1, 15);
        x.constant(2, 1);
        x.plus(1, 1, 2);
        x.hypothesis(1);
        x.times(3, 0, 1);
        x.part(1, 0, -1, 1, -1);
        Checks.due("a TERM of " + howMany + " terms", x.show(3, 1), howMany > 60 ? -2 : 1);
        x.part(0, 0, 1, -1, -1);
        Checks.due("0 times it", x.show(4, 1), 1);
    }

    private static void showPowers() {
        for (int s = 0; s < 16; s++) {
            for (int high = 8; high <= 10; high++) {
                PolyDesk x = new PolyDesk();
                Polys.power(x, 0, 1, s, 4);
                Polys.power(x, 2, 1, s, high - 4);
                x.hypothesis(0);
                x.hypothesis(2);
                x.times(3, 0, 2);
                x.part(1, 0, 1, -1, -1);
                Checks.due("power " + high + " of symbol " + s, x.show(3, 1), high > 9 ? -2 : 1);
                x.part(1, -1, 1, -1, 0);
                Checks.due("power " + high + " of symbol " + s, x.show(3, 1), high > 9 ? -2 : 1);
                x.part(0, 0, 1, -1, -1);
                Checks.due("0 times power " + high, x.show(9, 1), 1);
            }
        }
        PolyDesk x = new PolyDesk();
        Polys.power(x, 0, 1, 6, 9);
        x.hypothesis(0);
        x.symbol(1, 6);
        x.hypothesis(1);
        x.constant(2, 0);
        x.hypothesis(2);
        x.part(1, 0, 1, 2, -1);
        Checks.due("a power 10, then 0", x.show(2, 1), -2);
        x.part(1, 0, 2, 1, -1);
        Checks.due("0, then what would be a power 10", x.show(2, 1), 1);
        x.part(1, 0, -1, -1, -1);
        x.part(1, 0, -1, -1, -1);
        Checks.due("a power 9 twice", x.show(0, 2), 1);
    }

    private static void showAsTheyAreWorked() {
        for (int zeroAt = 0; zeroAt < 4; zeroAt++) {
            PolyDesk x = new PolyDesk();
            x.constant(0, 1000);
            x.hypothesis(0);
            x.hypothesis(1);
            int[] n = {0, 0, 0, 0};
            n[zeroAt] = 1;
            x.part(1, n[0], n[1], n[2], n[3]);
            Checks.due("1000 each, 0 at " + zeroAt, x.show(1, 1), zeroAt == 3 ? -2 : 1);
            x.part(100000, n[0], n[1], n[2], n[3]);
            Checks.due("100,000 and 1000 each, 0 at " + zeroAt, x.show(1, 1), zeroAt > 0 ? -2 : 1);
        }
        showParts("the second TERM is too big", -2, 0, -1, 10000, 1);
        showParts("the first TERM is too big", -2, 10000, 1, 0, -1);
    }

    private static void count() {
        for (int howMany : new int[] {0, 1, 39, 40}) {
            Scene scene = withHypotheses(howMany);
            scene.refuses("count(0)", x -> x.count(0), howMany);
            scene.refuses("count(1)", x -> x.count(1), 3);
        }
        for (int howMany : new int[] {3, 4, 19, 20}) {
            Scene scene = withParts(howMany);
            scene.refuses("count(0)", x -> x.count(0), 3);
            scene.refuses("count(1)", x -> x.count(1), howMany);
        }
        PolyDesk x = withParts(20).desk();
        x.part(1, -1, -1, -1, -1);
        Checks.due("count(1) behind a refused TERM", x.count(1), 20);
        x.show(0, 1);
        Checks.due("count(1) behind show", x.count(1), 0);
        x.keep(1);
        Checks.due("count(0) behind keep(1)", x.count(0), 1);
    }

    private static void countNone() {
        for (int what : new int[] {-1, 2, -2, 3, MIN, MAX}) {
            Scene.furnished().refuses("count(" + what + ")", x -> x.count(what), -1);
        }
    }
}
