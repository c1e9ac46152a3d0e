/** Each promise of the document by hand: ordinary inputs, the edges it names, wrong inputs. */
public final class PromisesTest {
    private static final int MOST = Polys.MOST;
    private static final int[] NO_REGISTER = Polys.NO_REGISTER;

    private static int wrong = 0;

    private static void due(String call, long got, long want) {
        if (got != want) {
            wrong++;
            System.out.println(call + " answered " + got + ", due is " + want);
        }
    }

    public static void main(String[] args) {
        newObject();
        constant();
        symbol();
        plus();
        plusTooBig();
        minus();
        times();
        timesPutsTogetherFirst();
        timesTooBig();
        put();
        putInOrder();
        putTooBig();
        size();
        term();
        order();
        same();
        value();
        hypothesis();
        keep();
        part();
        show();
        showNone();
        showMissing();
        showTooBig();
        showAsTheyAreThen();
        count();
        System.out.println(wrong == 0 ? "all answers are as due" : wrong + " answers are not as due");
        if (wrong != 0) {
            System.exit(1);
        }
    }

    private static void newObject() {
        PolyDesk x = new PolyDesk();
        for (int r = 0; r < 16; r++) {
            due("1: size(" + r + ")", x.size(r), 0);
            due("1: value(" + r + ", 3)", x.value(r, 3), 0);
            due("1: term(" + r + ", 0, -1)", x.term(r, 0, -1), 0);
            due("1: same(0, " + r + ")", x.same(0, r), 1);
        }
        due("1: count(0)", x.count(0), 0);
        due("1: count(1)", x.count(1), 0);
        x.constant(0, 5);
        x.hypothesis(0);
        x.part(1, 0, -1, -1, -1);
        PolyDesk y = new PolyDesk();
        due("1: size(0) of another", y.size(0), 0);
        due("1: count(0) of another", y.count(0), 0);
        due("1: count(1) of another", y.count(1), 0);
        due("1: size(0) of the first", x.size(0), 1);
        due("1: NONE", PolyDesk.NONE, -1);
        due("1: TOO_BIG", PolyDesk.TOO_BIG, -2);
    }

    private static void constant() {
        PolyDesk x = new PolyDesk();
        for (int r = 0; r < 16; r++) {
            due("2: constant(" + r + ", 7)", x.constant(r, 7 + r), 1);
        }
        for (int r = 0; r < 16; r++) {
            due("2: term(" + r + ", 0, -1)", x.term(r, 0, -1), 7 + r);
            due("2: term(" + r + ", 0, 0)", x.term(r, 0, 0), 0);
        }
        int[] tooBig = {MOST + 1, -MOST - 1, Integer.MAX_VALUE, Integer.MIN_VALUE};
        for (int v : tooBig) {
            due("2: constant(3, " + v + ")", x.constant(3, v), -2);
            due("2: term(3, 0, -1) after it", x.term(3, 0, -1), 10);
        }
        due("2: constant(3, MOST)", x.constant(3, MOST), 1);
        due("2: its coefficient", x.term(3, 0, -1), MOST);
        due("2: constant(3, -MOST)", x.constant(3, -MOST), 1);
        due("2: its coefficient", x.term(3, 0, -1), -MOST);
        due("2: constant(3, 0)", x.constant(3, 0), 0);
        due("2: size(3)", x.size(3), 0);
        for (int r : NO_REGISTER) {
            due("2: constant(" + r + ", 1)", x.constant(r, 1), -1);
            due("2: constant(" + r + ", MOST + 1)", x.constant(r, MOST + 1), -1);
        }
    }

    private static void symbol() {
        PolyDesk x = new PolyDesk();
        for (int s = 0; s < 16; s++) {
            due("3: symbol(" + (15 - s) + ", " + s + ")", x.symbol(15 - s, s), 1);
        }
        for (int s = 0; s < 16; s++) {
            due("3: size", x.size(15 - s), 1);
            due("3: its coefficient", x.term(15 - s, 0, -1), 1);
            for (int t = 0; t < 16; t++) {
                due("3: power of " + t + " in symbol " + s, x.term(15 - s, 0, t), s == t ? 1 : 0);
            }
        }
        for (int n : NO_REGISTER) {
            due("3: symbol(" + n + ", 0)", x.symbol(n, 0), -1);
            due("3: symbol(0, " + n + ")", x.symbol(0, n), -1);
        }
        due("3: term(0, 0, 15) after them", x.term(0, 0, 15), 1);
    }

    private static void plus() {
        PolyDesk x = new PolyDesk();
        x.symbol(0, 0);
        x.symbol(1, 1);
        x.constant(2, 5);
        due("4: a + b", x.plus(3, 0, 1), 2);
        due("4: a + b + 5", x.plus(4, 3, 2), 3);
        due("4: 5 + (a + b)", x.plus(5, 2, 3), 3);
        due("4: they are the same", x.same(4, 5), 1);
        due("4: a + a", x.plus(6, 0, 0), 1);
        due("4: its coefficient", x.term(6, 0, -1), 2);
        due("4: 0 + 0", x.plus(7, 8, 9), 0);
        due("4: a + 0", x.plus(7, 0, 9), 1);
        due("4: 0 + a", x.plus(7, 9, 0), 1);
        x.minus(8, 9, 0);
        due("4: (a + b) + -a", x.plus(8, 3, 8), 1);
        due("4: that is b", x.same(8, 1), 1);
        due("4: onto itself", x.plus(3, 3, 3), 2);
        due("4: value", x.value(3, 10), 40);
        for (int n : NO_REGISTER) {
            due("4: plus(" + n + ", 0, 1)", x.plus(n, 0, 1), -1);
            due("4: plus(0, " + n + ", 1)", x.plus(0, n, 1), -1);
            due("4: plus(0, 1, " + n + ")", x.plus(0, 1, n), -1);
        }
        due("4: register 0 after them", x.term(0, 0, 0), 1);
    }

    private static void plusTooBig() {
        PolyDesk x = new PolyDesk();
        x.constant(0, MOST);
        x.constant(1, 1);
        x.constant(2, -1);
        x.constant(3, -MOST);
        due("4: MOST + 1", x.plus(4, 0, 1), -2);
        due("4: size(4)", x.size(4), 0);
        due("4: -MOST + -1", x.plus(4, 3, 2), -2);
        due("4: MOST + -1", x.plus(4, 0, 2), 1);
        due("4: MOST - 1 + 1", x.plus(4, 4, 1), 1);
        due("4: that is MOST", x.same(4, 0), 1);
        due("4: MOST + -MOST", x.plus(4, 0, 3), 0);
        Polys.terms(x, 5, 60);
        due("4: size(5)", x.size(5), 60);
        due("4: the 61st term", x.plus(5, 5, 1), -2);
        due("4: size(5) after it", x.size(5), 60);
        due("4: sixty twice", x.plus(6, 5, 5), 60);
        x.symbol(7, 7);
        x.minus(7, 1, 7);
        due("4: one comes, one goes", x.plus(6, 5, 7), 60);
        due("4: the one that came", x.term(6, 59, 7), 0);
    }

    private static void minus() {
        PolyDesk x = new PolyDesk();
        x.symbol(0, 0);
        x.symbol(1, 1);
        x.plus(2, 0, 1);
        due("5: (a + b) - a", x.minus(3, 2, 0), 1);
        due("5: that is b", x.same(3, 1), 1);
        due("5: a - b", x.minus(3, 0, 1), 2);
        due("5: of a", x.term(3, 0, -1), 1);
        due("5: of b", x.term(3, 1, -1), -1);
        due("5: a - a", x.minus(4, 0, 0), 0);
        due("5: 0 - a", x.minus(4, 4, 0), 1);
        due("5: its coefficient", x.term(4, 0, -1), -1);
        due("5: onto itself", x.minus(1, 2, 1), 1);
        due("5: that is a", x.same(1, 0), 1);
        x.constant(5, MOST);
        x.constant(6, -MOST);
        x.constant(7, 1);
        x.constant(8, -1);
        due("5: MOST - -1", x.minus(9, 5, 8), -2);
        due("5: -MOST - 1", x.minus(9, 6, 7), -2);
        due("5: size(9)", x.size(9), 0);
        due("5: -MOST - -1", x.minus(9, 6, 8), 1);
        due("5: 0 - MOST", x.minus(9, 10, 5), 1);
        due("5: that is -MOST", x.same(9, 6), 1);
        Polys.terms(x, 10, 60);
        due("5: the 61st term", x.minus(10, 10, 7), -2);
        due("5: the 61st term, the other way", x.minus(10, 7, 10), -2);
        due("5: size(10)", x.size(10), 60);
        due("5: sixty less itself", x.minus(11, 10, 10), 0);
        for (int n : NO_REGISTER) {
            due("5: minus(" + n + ", 0, 1)", x.minus(n, 0, 1), -1);
            due("5: minus(0, " + n + ", 1)", x.minus(0, n, 1), -1);
            due("5: minus(0, 1, " + n + ")", x.minus(0, 1, n), -1);
        }
        due("5: register 0 after them", x.term(0, 0, 0), 1);
    }

    private static void times() {
        PolyDesk x = new PolyDesk();
        x.symbol(0, 0);
        x.symbol(1, 15);
        x.plus(2, 0, 1);
        x.minus(3, 0, 1);
        due("6: (a + p)(a - p)", x.times(4, 2, 3), 2);
        due("6: of aa", x.term(4, 0, -1), 1);
        due("6: power of a", x.term(4, 0, 0), 2);
        due("6: of pp", x.term(4, 1, -1), -1);
        due("6: power of p", x.term(4, 1, 15), 2);
        due("6: the other way", x.times(5, 3, 2), 2);
        due("6: the same", x.same(4, 5), 1);
        due("6: by 0", x.times(5, 4, 6), 0);
        due("6: 0 by it", x.times(5, 6, 4), 0);
        x.constant(7, -3);
        due("6: by -3", x.times(5, 4, 7), 2);
        due("6: value", x.value(5, 9), 0);
        due("6: of aa", x.term(5, 0, -1), -3);
        due("6: of pp", x.term(5, 1, -1), 3);
        due("6: onto itself", x.times(2, 2, 2), 3);
        due("6: value", x.value(2, 3), 36);
        for (int n : NO_REGISTER) {
            due("6: times(" + n + ", 0, 1)", x.times(n, 0, 1), -1);
            due("6: times(0, " + n + ", 1)", x.times(0, n, 1), -1);
            due("6: times(0, 1, " + n + ")", x.times(0, 1, n), -1);
        }
        due("6: register 0 after them", x.term(0, 0, 0), 1);
    }

    private static void timesPutsTogetherFirst() {
        PolyDesk x = new PolyDesk();
        Polys.more(x, 0, 1, 0, 0);
        Polys.more(x, 0, 10000, 0);
        Polys.more(x, 0, 1);
        Polys.more(x, 1, 1, 0, 0);
        Polys.more(x, 1, -10000, 0);
        Polys.more(x, 1, 5);
        due("6: -100,000,000 + 6", x.times(2, 0, 1), 4);
        due("6: of aa", x.term(2, 1, -1), -99999994);
        due("6: power of a", x.term(2, 1, 0), 2);
        due("6: of a", x.term(2, 2, -1), 40000);
        x.constant(3, 1);
        x.constant(4, 1);
        x.constant(5, 1);
        for (int s = 0; s < 4; s++) {
            x.symbol(6, s);
            x.plus(7, 5, 6);
            x.times(3, 3, 7);
            x.minus(7, 5, 6);
            x.times(4, 4, 7);
        }
        due("6: sixteen terms", x.size(3), 16);
        due("6: 81 kinds of terms, of which 16 stay", x.times(8, 3, 4), 16);
        due("6: the first", x.term(8, 0, -1), 1);
        due("6: its power of 3", x.term(8, 0, 3), 2);
        due("6: the last", x.term(8, 15, -1), 1);
    }

    private static void timesTooBig() {
        PolyDesk x = new PolyDesk();
        for (int s = 0; s < 16; s++) {
            x.symbol(0, s);
            Polys.monomial(x, 1, 2, 1, s, s, s, s);
            x.times(3, 1, 0);
            due("6: power 9 of " + s, x.times(4, 1, 3), 1);
            due("6: it is 9", x.term(4, 0, s), 9);
            due("6: power 10 of " + s, x.times(5, 3, 3), -2);
            due("6: power 10 of " + s + ", by the symbol", x.times(5, 4, 0), -2);
        }
        due("6: size(5)", x.size(5), 0);
        due("6: 0 by a power 9", x.times(5, 5, 4), 0);
        x.constant(6, 10000);
        due("6: 100,000,000", x.times(7, 6, 6), -2);
        x.constant(7, -10000);
        due("6: -100,000,000", x.times(8, 6, 7), -2);
        x.constant(7, 9999);
        x.constant(8, 10001);
        due("6: MOST", x.times(9, 7, 8), 1);
        due("6: it is MOST", x.term(9, 0, -1), MOST);
        x.constant(7, MOST);
        due("6: MOST by MOST", x.times(9, 7, 7), -2);
        due("6: register 9 after it", x.term(9, 0, -1), MOST);
        Polys.terms(x, 10, 60);
        x.constant(11, 2);
        due("6: sixty by 2", x.times(12, 10, 11), 60);
        x.symbol(11, 0);
        due("6: sixty by a symbol", x.times(12, 10, 11), 60);
        x.constant(13, 1);
        x.plus(11, 11, 13);
        due("6: more than sixty", x.times(12, 10, 11), -2);
        due("6: sixty by sixty", x.times(12, 10, 10), -2);
        due("6: size(12)", x.size(12), 60);
    }

    private static void put() {
        PolyDesk x = new PolyDesk();
        x.constant(0, 3);
        x.symbol(1, 2);
        x.constant(5, 0);
        Polys.more(x, 5, 1, 0, 0, 1);
        Polys.more(x, 5, -2, 1);
        Polys.more(x, 5, 7);
        due("7: aab - 2b + 7 with 3 for a, c for b", x.put(6, 5), 2);
        due("7: 9c - 2c", x.term(6, 0, -1), 7);
        due("7: of c", x.term(6, 0, 2), 1);
        due("7: of b", x.term(6, 0, 1), 0);
        due("7: 7", x.term(6, 1, -1), 7);
        due("7: register 5 after it", x.size(5), 3);
        due("7: 0 for c", x.put(6, 6), 1);
        due("7: 7", x.term(6, 0, -1), 7);
        due("7: put of 0", x.put(6, 7), 0);
        x.symbol(0, 0);
        x.constant(7, 1);
        x.plus(0, 0, 7);
        due("7: a + 1 with a + 1 for a, onto itself", x.put(0, 0), 2);
        due("7: a + 2", x.value(0, 10), 12);
        due("7: once more", x.put(0, 0), 2);
        due("7: a + 4", x.value(0, 10), 14);
        x.symbol(15, 15);
        x.symbol(14, 14);
        x.plus(13, 15, 14);
        due("7: o + p with o for o and p for p", x.put(13, 13), 2);
        due("7: of o", x.term(13, 0, 14), 1);
        due("7: of p", x.term(13, 1, 15), 1);
        for (int n : NO_REGISTER) {
            due("7: put(" + n + ", 0)", x.put(n, 0), -1);
            due("7: put(0, " + n + ")", x.put(0, n), -1);
        }
        due("7: register 0 after them", x.value(0, 10), 14);
    }

    private static void putInOrder() {
        PolyDesk x = new PolyDesk();
        Polys.more(x, 5, 1, 0);
        Polys.more(x, 5, 1, 1);
        Polys.more(x, 5, 1, 2);
        x.constant(0, 60000000);
        x.constant(1, 60000000);
        x.constant(2, -60000000);
        due("7: a sum on the way is too big", x.put(6, 5), -2);
        due("7: size(6)", x.size(6), 0);
        x.constant(1, -60000000);
        x.constant(2, 60000000);
        due("7: in another order it is not", x.put(6, 5), 1);
        due("7: the sum", x.value(6, 0), 60000000);
        x.constant(5, 0);
        Polys.more(x, 5, 3, 0, 1);
        x.constant(0, 50000000);
        x.constant(1, 0);
        due("7: the coefficient comes first", x.put(6, 5), -2);
        x.constant(0, 0);
        x.constant(1, 50000000);
        due("7: 0 comes ahead of what would be too big", x.put(6, 5), 0);
        x.constant(5, 0);
        Polys.more(x, 5, 1, 0, 0, 1);
        x.constant(0, 10000);
        x.constant(1, 0);
        due("7: symbol 0 comes ahead of symbol 1", x.put(6, 5), -2);
        x.constant(5, 0);
        Polys.more(x, 5, 1, 0, 1, 1);
        x.constant(0, 0);
        x.constant(1, 10000);
        due("7: symbol 1 comes behind symbol 0", x.put(6, 5), 0);
        x.constant(5, 0);
        Polys.more(x, 5, 60000000, 2, 3);
        Polys.more(x, 5, -60000000, 4);
        Polys.more(x, 5, 60000000);
        x.constant(2, 1);
        x.constant(3, 1);
        x.constant(4, 1);
        due("7: terms in their ORDER", x.put(6, 5), 1);
        due("7: 60,000,000", x.term(6, 0, -1), 60000000);
    }

    private static void putTooBig() {
        PolyDesk x = new PolyDesk();
        Polys.monomial(x, 5, 15, 1, 0, 0, 0, 0, 0);
        Polys.monomial(x, 0, 15, 1, 3, 3);
        due("7: power 10", x.put(5, 5), -2);
        due("7: register 5 after it", x.term(5, 0, 0), 5);
        Polys.monomial(x, 5, 15, 1, 0, 0, 0, 0);
        due("7: power 8", x.put(5, 5), 1);
        due("7: it is 8", x.term(5, 0, 3), 8);
        x.constant(0, 0);
        Polys.more(x, 0, 1, 0);
        Polys.more(x, 0, 1, 1);
        Polys.more(x, 0, 1, 2);
        Polys.more(x, 0, 1, 3);
        Polys.monomial(x, 5, 15, 1, 0, 0, 0, 0, 0);
        due("7: 56 terms", x.put(6, 5), 56);
        Polys.monomial(x, 5, 15, 1, 0, 0, 0, 0, 0, 0);
        due("7: 84 terms", x.put(6, 5), -2);
        due("7: size(6)", x.size(6), 56);
        Polys.monomial(x, 5, 15, 1, 0, 0, 0, 0, 0);
        Polys.more(x, 5, 1, 0);
        due("7: 56 terms and 4", x.put(6, 5), 60);
        Polys.more(x, 5, 1);
        due("7: 56 terms and 4 and 1", x.put(6, 5), -2);
    }

    private static void size() {
        PolyDesk x = new PolyDesk();
        for (int r = 0; r < 16; r++) {
            x.constant(r, r);
        }
        for (int r = 0; r < 16; r++) {
            due("8: size(" + r + ")", x.size(r), r == 0 ? 0 : 1);
        }
        Polys.terms(x, 3, 60);
        due("8: size(3)", x.size(3), 60);
        for (int n : NO_REGISTER) {
            due("8: size(" + n + ")", x.size(n), -1);
        }
    }

    private static void term() {
        PolyDesk x = new PolyDesk();
        Polys.more(x, 0, -4, 2, 2, 2, 9);
        Polys.more(x, 0, 6, 15);
        due("9: term(0, 0, -1)", x.term(0, 0, -1), -4);
        due("9: term(0, 0, 2)", x.term(0, 0, 2), 3);
        due("9: term(0, 0, 9)", x.term(0, 0, 9), 1);
        due("9: term(0, 0, 15)", x.term(0, 0, 15), 0);
        due("9: term(0, 1, -1)", x.term(0, 1, -1), 6);
        due("9: term(0, 1, 15)", x.term(0, 1, 15), 1);
        int[] noTerm = {2, 3, 59, 60, 61, -1, -2, Integer.MIN_VALUE, Integer.MAX_VALUE};
        for (int k : noTerm) {
            due("9: term(0, " + k + ", -1)", x.term(0, k, -1), 0);
            due("9: term(0, " + k + ", 2)", x.term(0, k, 2), 0);
        }
        int[] noWhat = {16, 17, -2, -3, Integer.MIN_VALUE, Integer.MAX_VALUE};
        for (int what : noWhat) {
            due("9: term(0, 0, " + what + ")", x.term(0, 0, what), 0);
        }
        for (int n : NO_REGISTER) {
            due("9: term(" + n + ", 0, -1)", x.term(n, 0, -1), 0);
            due("9: term(" + n + ", 0, 2)", x.term(n, 0, 2), 0);
        }
    }

    private static void order() {
        PolyDesk x = new PolyDesk();
        Polys.more(x, 0, 1);
        Polys.more(x, 0, 2, 15);
        Polys.more(x, 0, 3, 0);
        Polys.more(x, 0, 4, 15, 15);
        Polys.more(x, 0, 5, 0, 15);
        Polys.more(x, 0, 6, 0, 0);
        Polys.more(x, 0, 7, 1, 1);
        Polys.more(x, 0, 8, 0, 1);
        Polys.more(x, 0, 9, 14, 15, 15);
        Polys.more(x, 0, 10, 14, 14, 15);
        Polys.more(x, 0, 11, 0, 0, 0, 0, 0, 0, 0, 0, 0);
        Polys.more(x, 0, 12, 15, 15, 15, 15, 15, 15, 15, 15, 15, 14);
        int[] want = {12, 11, 10, 9, 6, 8, 5, 7, 4, 3, 2, 1};
        for (int k = 0; k < want.length; k++) {
            due("9: term(0, " + k + ", -1) in ORDER", x.term(0, k, -1), want[k]);
        }
        x.constant(1, 1);
        for (int s = 0; s < 16; s++) {
            x.symbol(2, s);
            for (int n = 0; n < 9; n++) {
                x.times(1, 1, 2);
            }
        }
        due("9: every power 9, and more", x.plus(3, 0, 1), 13);
        due("9: it comes first", x.term(3, 0, -1), 1);
        for (int s = 0; s < 16; s++) {
            due("9: its power of " + s, x.term(3, 0, s), 9);
        }
    }

    private static void same() {
        PolyDesk x = new PolyDesk();
        x.symbol(0, 0);
        x.symbol(1, 1);
        x.plus(2, 0, 1);
        x.plus(3, 1, 0);
        x.minus(4, 0, 1);
        due("10: same(2, 3)", x.same(2, 3), 1);
        due("10: same(2, 2)", x.same(2, 2), 1);
        due("10: same(2, 4)", x.same(2, 4), 0);
        due("10: same(0, 1)", x.same(0, 1), 0);
        due("10: same(0, 2)", x.same(0, 2), 0);
        due("10: same(2, 0)", x.same(2, 0), 0);
        due("10: same(5, 6)", x.same(5, 6), 1);
        due("10: same(0, 5)", x.same(0, 5), 0);
        x.times(7, 2, 2);
        x.times(8, 4, 4);
        due("10: only a middle coefficient differs", x.same(7, 8), 0);
        for (int n : NO_REGISTER) {
            due("10: same(" + n + ", 0)", x.same(n, 0), -1);
            due("10: same(0, " + n + ")", x.same(0, n), -1);
            due("10: same(" + n + ", " + n + ")", x.same(n, n), -1);
        }
    }

    private static void value() {
        PolyDesk x = new PolyDesk();
        Polys.more(x, 0, 2, 0, 0, 3);
        Polys.more(x, 0, -5, 1, 2, 4);
        Polys.more(x, 0, 4, 0);
        Polys.more(x, 0, 11);
        int[] all = {0, 1, -1, 2, -2, 10, 1000, Integer.MAX_VALUE, Integer.MIN_VALUE};
        for (int n : all) {
            long m = n;
            due("11: value(0, " + n + ")", x.value(0, n), -3L * m * m * m + 4L * m + 11L);
        }
        x.constant(1, -7);
        for (int s = 0; s < 16; s++) {
            x.symbol(2, s);
            for (int n = 0; n < 9; n++) {
                x.times(1, 1, 2);
            }
        }
        for (int n : all) {
            long want = -7L;
            for (int power = 0; power < 144; power++) {
                want = want * n;
            }
            due("11: value(1, " + n + ")", x.value(1, n), want);
        }
        due("11: value of 0", x.value(3, 5), 0);
        x.constant(3, -7);
        due("11: value of -7 with 0", x.value(3, 0), -7);
        for (int n : NO_REGISTER) {
            due("11: value(" + n + ", 1)", x.value(n, 1), 0);
        }
    }

    private static void hypothesis() {
        PolyDesk x = new PolyDesk();
        for (int n : NO_REGISTER) {
            due("12: hypothesis(" + n + ")", x.hypothesis(n), -1);
        }
        due("12: count(0)", x.count(0), 0);
        for (int h = 0; h < 40; h++) {
            due("12: hypothesis " + h, x.hypothesis(h % 16), h);
            due("12: count(0)", x.count(0), h + 1);
        }
        due("12: the 41st", x.hypothesis(0), -1);
        due("12: count(0)", x.count(0), 40);
        x.keep(39);
        x.constant(0, 8);
        due("12: the 40th again", x.hypothesis(0), 39);
        x.constant(1, 8);
        x.constant(0, 9);
        x.part(1, 39, -1, -1, -1);
        due("12: it stays as the register was", x.show(1, 1), 1);
    }

    private static void keep() {
        PolyDesk x = new PolyDesk();
        due("13: keep(0)", x.keep(0), 0);
        due("13: keep(1)", x.keep(1), -1);
        for (int v = 1; v <= 5; v++) {
            x.constant(0, v);
            x.hypothesis(0);
        }
        due("13: keep(6)", x.keep(6), -1);
        due("13: keep(-1)", x.keep(-1), -1);
        due("13: keep(MIN)", x.keep(Integer.MIN_VALUE), -1);
        due("13: keep(MAX)", x.keep(Integer.MAX_VALUE), -1);
        due("13: count(0)", x.count(0), 5);
        due("13: keep(5)", x.keep(5), 5);
        x.part(1, 0, -1, -1, -1);
        due("13: keep(2)", x.keep(2), 2);
        due("13: count(0)", x.count(0), 2);
        due("13: TERMS stay", x.count(1), 1);
        due("13: keep(3)", x.keep(3), -1);
        x.constant(0, 3);
        x.part(1, 1, -1, -1, -1);
        due("13: the first two stay", x.show(0, 1), 1);
        due("13: the next one", x.hypothesis(0), 2);
        due("13: keep(0)", x.keep(0), 0);
        due("13: count(0)", x.count(0), 0);
    }

    private static void part() {
        PolyDesk x = new PolyDesk();
        int[] noNumber = {-1, MOST + 1, Integer.MIN_VALUE, Integer.MAX_VALUE};
        for (int n : noNumber) {
            due("14: part(" + n + ", ..)", x.part(n, -1, -1, -1, -1), -1);
        }
        int[] noHypothesis = {-2, -3, Integer.MIN_VALUE};
        for (int h : noHypothesis) {
            due("14: a " + h, x.part(1, h, -1, -1, -1), -1);
            due("14: b " + h, x.part(1, -1, h, -1, -1), -1);
            due("14: c " + h, x.part(1, -1, -1, h, -1), -1);
            due("14: d " + h, x.part(1, -1, -1, -1, h), -1);
        }
        due("14: count(1)", x.count(1), 0);
        due("14: 0", x.part(0, -1, -1, -1, -1), 1);
        due("14: MOST", x.part(MOST, 0, 39, 40, Integer.MAX_VALUE), 2);
        for (int n = 3; n <= 20; n++) {
            due("14: part " + n, x.part(n, 0, 1, 2, 3), n);
        }
        due("14: the 21st", x.part(1, -1, -1, -1, -1), -1);
        due("14: count(1)", x.count(1), 20);
        due("14: show", x.show(0, 1), 0);
        due("14: one again", x.part(1, -1, -1, -1, -1), 1);
        x.show(0, 1);
        x.constant(0, 210);
        for (int n = 1; n <= 20; n++) {
            x.part(n, -1, -1, -1, -1);
        }
        x.part(1, -1, -1, -1, -1);
        due("14: twenty of them", x.show(0, 1), 1);
    }

    private static void show() {
        PolyDesk x = new PolyDesk();
        due("15: nothing shows 0", x.show(0, 1), 1);
        due("15: with MOST", x.show(0, MOST), 1);
        x.constant(0, 6);
        due("15: nothing does not show 6", x.show(0, 1), 0);
        for (int s = 0; s < 4; s++) {
            x.symbol(1, s);
            x.hypothesis(1);
        }
        Polys.monomial(x, 2, 3, 5, 0, 1, 2, 3);
        due("15: four of them", x.part(5, 3, 0, 2, 1), 1);
        due("15: show(2, 1)", x.show(2, 1), 1);
        due("15: count(1)", x.count(1), 0);
        x.part(5, 0, 1, 2, 2);
        due("15: another d", x.show(2, 1), 0);
        x.part(5, 0, 1, 2, -1);
        due("15: no d", x.show(2, 1), 0);
        x.part(4, 0, 1, 2, 3);
        due("15: another number", x.show(2, 1), 0);
        due("15: count(1) after 0", x.count(1), 0);
        x.part(2, 0, 1, 2, 3);
        x.part(8, 3, 2, 1, 0);
        due("15: with k 2", x.show(2, 2), 1);
        x.part(2, 0, 1, 2, 3);
        x.part(8, 3, 2, 1, 0);
        due("15: with k 3", x.show(2, 3), 0);
        Polys.monomial(x, 2, 3, 5, 0, 3);
        x.part(5, -1, 0, -1, 3);
        x.part(0, 0, 0, 0, 0);
        due("15: NONE between", x.show(2, 1), 1);
        x.part(6, -1, -1, -1, -1);
        due("15: a bare number", x.show(0, 1), 1);
        x.part(MOST, -1, -1, -1, -1);
        x.constant(0, 1);
        due("15: with k MOST", x.show(0, MOST), 1);
        due("15: the register after it", x.term(0, 0, -1), 1);
        due("15: count(0) after it", x.count(0), 4);
    }

    private static void showNone() {
        PolyDesk x = new PolyDesk();
        x.constant(0, 6);
        x.part(6, -1, -1, -1, -1);
        for (int n : NO_REGISTER) {
            due("15: show(" + n + ", 1)", x.show(n, 1), -1);
        }
        int[] noNumber = {0, -1, -6, MOST + 1, Integer.MIN_VALUE, Integer.MAX_VALUE};
        for (int k : noNumber) {
            due("15: show(0, " + k + ")", x.show(0, k), -1);
        }
        due("15: TERMS stay", x.count(1), 1);
        due("15: and show it", x.show(0, 1), 1);
    }

    private static void showMissing() {
        PolyDesk x = new PolyDesk();
        x.constant(0, MOST);
        x.hypothesis(0);
        for (int place = 0; place < 4; place++) {
            int[] h = {-1, -1, -1, -1};
            h[place] = 1;
            x.part(0, h[0], h[1], h[2], h[3]);
            due("15: missing at " + place, x.show(1, 1), 0);
            due("15: count(1)", x.count(1), 0);
        }
        x.part(2, 0, -1, -1, -1);
        x.part(1, 0, Integer.MAX_VALUE, -1, -1);
        due("15: missing ahead of TERMS that are too big", x.show(1, 1), 0);
        x.part(1, 1, -1, -1, -1);
        due("15: missing ahead of k times it too big", x.show(0, 2), 0);
        x.part(1, 0, -1, -1, -1);
        x.keep(0);
        due("15: gone", x.show(0, 1), 0);
    }

    private static void showTooBig() {
        PolyDesk x = new PolyDesk();
        x.constant(0, 50000000);
        x.hypothesis(0);
        x.constant(1, -50000000);
        x.hypothesis(1);
        x.constant(2, 0);
        x.hypothesis(2);
        due("15: k times it", x.show(0, 2), -2);
        x.part(1, -1, -1, -1, -1);
        due("15: k times it, with TERMS", x.show(0, 2), -2);
        due("15: TERMS are none", x.count(1), 0);
        x.part(2, 0, -1, -1, -1);
        due("15: a TERM", x.show(0, 1), -2);
        due("15: TERMS are none", x.count(1), 0);
        x.part(2, 0, 2, -1, -1);
        due("15: a TERM on its way", x.show(2, 1), -2);
        x.part(2, 2, 0, -1, -1);
        due("15: 0 comes ahead of it", x.show(2, 1), 1);
        x.part(1, 0, -1, -1, -1);
        x.part(1, 0, -1, -1, -1);
        x.part(1, 1, -1, -1, -1);
        due("15: a sum on its way", x.show(0, 1), -2);
        x.part(1, 0, -1, -1, -1);
        x.part(1, 1, -1, -1, -1);
        x.part(1, 0, -1, -1, -1);
        due("15: in another order", x.show(0, 1), 1);
        Polys.terms(x, 3, 60);
        x.keep(0);
        x.hypothesis(3);
        x.constant(4, 1);
        x.part(1, 0, -1, -1, -1);
        due("15: sixty terms", x.show(3, 1), 1);
        x.part(1, 0, -1, -1, -1);
        x.part(1, -1, -1, -1, -1);
        due("15: sixty-one terms", x.show(3, 1), -2);
        Polys.monomial(x, 5, 6, 1, 0, 0, 0, 0, 0);
        x.hypothesis(5);
        x.part(1, 1, 1, -1, -1);
        due("15: power 10", x.show(3, 1), -2);
        x.part(0, 1, 1, -1, -1);
        due("15: 0 times a power 10", x.show(2, 1), 1);
    }

    private static void showAsTheyAreThen() {
        PolyDesk x = new PolyDesk();
        x.constant(0, 2);
        x.constant(1, 3);
        x.part(1, 0, 1, -1, -1);
        x.hypothesis(0);
        x.hypothesis(1);
        x.constant(2, 6);
        due("15: come behind the TERM", x.show(2, 1), 1);
        x.part(1, 0, 1, -1, -1);
        x.keep(1);
        x.constant(3, 5);
        x.hypothesis(3);
        x.constant(2, 10);
        due("15: another in its place", x.show(2, 1), 1);
    }

    private static void count() {
        PolyDesk x = new PolyDesk();
        x.hypothesis(0);
        x.hypothesis(0);
        x.hypothesis(0);
        x.part(1, -1, -1, -1, -1);
        x.part(1, -1, -1, -1, -1);
        due("16: count(0)", x.count(0), 3);
        due("16: count(1)", x.count(1), 2);
        int[] noWhat = {2, 3, -1, -2, Integer.MIN_VALUE, Integer.MAX_VALUE};
        for (int what : noWhat) {
            due("16: count(" + what + ")", x.count(what), -1);
        }
    }
}
