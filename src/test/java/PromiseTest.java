import java.math.BigInteger;

/** For each promise of the document: ordinary calls, its edges, and wrong arguments. */
public final class PromiseTest {
    private static final Checks CHECKS = new Checks("PromiseTest");
    private static final int BILLION = 1000000000;
    private static final int[] WRONG_RATIOS = {-1, 6, Integer.MIN_VALUE, Integer.MAX_VALUE};

    private PromiseTest() {
    }

    public static void main(String[] args) {
        newObject();
        putting();
        copyingAndSwapping();
        sums();
        products();
        signsAndPowers();
        mediants();
        readings();
        termsOfRatios();
        theRow();
        folding();
        neighbours();
        bestOnes();
        treeSteps();
        waysAndDepths();
        nextOnes();
        cutting();
        simplestOnes();
        tallying();
        tallyRefusals();
        theWhole();
        digests();
        wrongRatios();
        orderOfExceptions();
        refusalsAreCounted();
        refusalsChangeNothing();
        objectsOfTheirOwn();
        CHECKS.end();
    }

    private static void due(String what, Object got, Object due) {
        CHECKS.same(what, got, due);
    }

    /** An object whose RATIOS 0, 1, .. are those tops by those bottoms. */
    private static Bestratios with(int... topsAndBottoms) {
        Bestratios x = new Bestratios();
        for (int k = 0; k + 1 < topsAndBottoms.length; k += 2) {
            x.put(k / 2, topsAndBottoms[k], topsAndBottoms[k + 1]);
        }
        return x;
    }

    // Promise 1
    private static void newObject() {
        Bestratios x = new Bestratios();
        for (int k = 0; k < 6; k++) {
            due("1: text", x.text(k), "0");
            due("1: bottom", x.part(k, 1), 1);
        }
        due("1: row", x.row(), "");
        due("1: exact", x.exact(), "0");
        due("1: rounded", x.rounded(), "0");
        due("1: error", x.error(), "0");
        due("1: whole", x.house(0), 6);
        for (int what = 1; what <= 4; what++) {
            due("1: house", x.house(what), 0);
        }
    }

    // Promises 2 and 3
    private static void putting() {
        Bestratios x = new Bestratios();
        due("2: reduced", x.put(0, 6, -8), 1);
        due("2: text", x.text(0), "-3/4");
        due("2: the same again", x.put(0, -75, 100), 0);
        due("2: both below 0", x.put(0, Integer.MIN_VALUE, Integer.MIN_VALUE), 1);
        due("2: is 1", x.text(0), "1");
        due("2: 0 of any bottom", x.put(1, 0, Integer.MIN_VALUE), 0);
        due("2: greatest", x.put(1, BILLION, 1), 1);
        due("2: least", x.put(1, BILLION, -1), 1);
        due("2: least as text", x.text(1), "-1000000000");
        due("2: top too great", x.put(1, BILLION + 1, 1), -9);
        due("2: bottom too great", x.put(1, 1, BILLION + 1), -9);
        due("2: fits when reduced", x.put(1, 2000000000, 2000000000 - 2), 1);
        due("2: reduced to fit", x.text(1), "1000000000/999999999");
        due("2: least int", x.put(1, Integer.MIN_VALUE, -1), -9);
        due("2: least int below", x.put(1, 1, Integer.MIN_VALUE), -9);
        due("2: least int by 4", x.put(1, Integer.MIN_VALUE, 4), 1);
        due("2: least int by 4 as text", x.text(1), "-536870912");
        CHECKS.throwsArgument("2: bottom 0", () -> x.put(1, 1, 0));
        CHECKS.throwsArgument("2: bottom 0 below 0", () -> x.put(1, 0, 0));

        due("3: hundredths", x.putDecimal(2, -250, 2), 1);
        due("3: as text", x.text(2), "-5/2");
        due("3: the same", x.putDecimal(2, -25, 1), 0);
        due("3: whole", x.putDecimal(2, 7, 0), 1);
        due("3: nine places", x.putDecimal(2, 1, 9), 1);
        due("3: nine places as text", x.text(2), "1/1000000000");
        due("3: 0", x.putDecimal(3, 0, 9), 0);
        due("3: too great a top", x.putDecimal(3, Integer.MAX_VALUE, 0), -9);
        due("3: too great a top in nine places", x.putDecimal(3, Integer.MAX_VALUE, 9), -9);
        due("3: reduced to fit", x.putDecimal(3, 2000000000, 1), 1);
        due("3: reduced as text", x.text(3), "200000000");
        CHECKS.throwsArgument("3: places -1", () -> x.putDecimal(3, 1, -1));
        CHECKS.throwsArgument("3: places 10", () -> x.putDecimal(3, 1, 10));
    }

    // Promises 4 and 5
    private static void copyingAndSwapping() {
        Bestratios x = with(1, 2, -3, 4, 1, 2);
        due("4: another", x.copy(0, 1), 1);
        due("4: as text", x.text(0), "-3/4");
        due("4: the same", x.copy(0, 1), 0);
        due("4: itself", x.copy(2, 2), 0);
        due("5: other numbers", x.swap(0, 2), 1);
        due("5: first", x.text(0), "1/2");
        due("5: second", x.text(2), "-3/4");
        due("5: like numbers", x.swap(1, 2), 0);
        due("5: itself", x.swap(0, 0), 0);
        due("5: itself stays", x.text(0), "1/2");
    }

    // Promises 6 and 7
    private static void sums() {
        Bestratios x = with(1, 6, 1, 3, BILLION, 1, 1, BILLION, 1, BILLION - 1);
        due("6: sum", x.plus(5, 0, 1), 1);
        due("6: reduced", x.text(5), "1/2");
        due("6: into one of them", x.plus(0, 0, 0), 1);
        due("6: twice", x.text(0), "1/3");
        due("6: with 0", x.plus(1, 1, 1), 1);
        due("6: top too great", x.plus(5, 2, 1), -9);
        due("6: bottom too great", x.plus(5, 3, 4), -9);
        due("6: stays", x.text(5), "1/2");
        due("7: less", x.minus(5, 0, 1), 1);
        due("7: below 0", x.text(5), "-1/3");
        due("7: the same", x.minus(5, 0, 1), 0);
        due("7: itself", x.minus(5, 5, 5), 1);
        due("7: 0", x.text(5), "0");
        x.negate(2);
        due("7: too low", x.minus(5, 2, 0), -9);
        due("7: bottom too great", x.minus(5, 3, 4), -9);
    }

    // Promises 8 and 9
    private static void products() {
        Bestratios x = with(-2, 3, 3, 4, BILLION, 999999999, 999999999, BILLION, 0, 1);
        due("8: product", x.times(5, 0, 1), 1);
        due("8: reduced", x.text(5), "-1/2");
        due("8: greatest ones", x.times(5, 2, 3), 1);
        due("8: is 1", x.text(5), "1");
        due("8: by 0", x.times(5, 2, 4), 1);
        due("8: does not fit", x.times(5, 2, 2), -9);
        due("8: the same", x.times(5, 4, 4), 0);
        due("8: itself", x.times(0, 0, 0), 1);
        due("8: square", x.text(0), "4/9");
        x.negate(0);
        due("9: quotient", x.over(5, 1, 0), 1);
        due("9: sign above", x.text(5), "-27/16");
        due("9: by itself", x.over(5, 5, 5), 1);
        due("9: is 1", x.text(5), "1");
        due("9: 0 by one", x.over(5, 4, 0), 1);
        due("9: is 0", x.text(5), "0");
        due("9: by 0", x.over(5, 0, 4), -9);
        due("9: 0 by 0", x.over(5, 4, 4), -9);
        due("9: does not fit", x.over(5, 2, 3), -9);
    }

    // Promises 10, 11 and 12
    private static void signsAndPowers() {
        Bestratios x = with(-2, 3, 0, 1, 1, BILLION, 31, 32, -31, 1, 32, 1);
        due("10: sign", x.negate(0), 1);
        due("10: as text", x.text(0), "2/3");
        due("10: of 0", x.negate(1), 0);
        x.negate(0);
        due("11: 1 by it", x.invert(0), 1);
        due("11: sign above", x.text(0), "-3/2");
        due("11: 0", x.invert(1), -9);
        due("11: greatest", x.invert(2), 1);
        due("11: greatest as text", x.text(2), "1000000000");
        x.put(2, -1, 1);
        due("11: -1", x.invert(2), 0);
        due("12: -1 at 2", x.raise(2, 2), 1);
        due("12: 1 at -6", x.raise(2, -6), 0);
        due("12: at 3", x.raise(0, 3), 1);
        due("12: at 3 as text", x.text(0), "-27/8");
        due("12: at 1", x.raise(0, 1), 0);
        due("12: at -1", x.raise(0, -1), 1);
        due("12: at -1 as text", x.text(0), "-8/27");
        due("12: at -2", x.raise(0, -2), 1);
        due("12: at -2 as text", x.text(0), "729/64");
        due("12: at 0", x.raise(0, 0), 1);
        due("12: at 0 as text", x.text(0), "1");
        due("12: bottom too great", x.raise(3, 6), -9);
        due("12: top too great", x.raise(3, -6), -9);
        due("12: 31 at 6", x.raise(4, 6), 1);
        due("12: 31 at 6 as text", x.text(4), "887503681");
        due("12: 32 at 6", x.raise(5, 6), -9);
        due("12: 32 at -6", x.raise(5, -6), -9);
        due("12: 0 at -1", x.raise(1, -1), -9);
        due("12: 0 at 6", x.raise(1, 6), 0);
        due("12: 0 at 0", x.raise(1, 0), 1);
        x.put(1, BILLION, 1);
        due("12: greatest at 6", x.raise(1, 6), -9);
        x.put(1, BILLION, 999999999);
        due("12: greatest at -6", x.raise(1, -6), -9);
        CHECKS.throwsArgument("12: at 7", () -> x.raise(1, 7));
        CHECKS.throwsArgument("12: at -7", () -> x.raise(1, -7));
        CHECKS.throwsArgument("12: at least int", () -> x.raise(1, Integer.MIN_VALUE));
    }

    // Promise 13
    private static void mediants() {
        Bestratios x = with(1, 2, 2, 3, -1, 2, BILLION, 1, 1, BILLION);
        due("13: mediant", x.mediant(5, 0, 1), 1);
        due("13: as text", x.text(5), "3/5");
        due("13: of the same", x.mediant(0, 0, 0), 0);
        due("13: reduced", x.mediant(5, 0, 2), 1);
        due("13: 0", x.text(5), "0");
        due("13: too great", x.mediant(5, 3, 0), -9);
        due("13: bottom too great", x.mediant(5, 4, 1), -9);
        due("13: fits when reduced", x.mediant(5, 4, 4), 1);
        due("13: reduced as text", x.text(5), "1/1000000000");
        due("13: one below it in the tree", x.mediant(5, 0, 1), 1);
    }

    // Promises 14 to 17
    private static void readings() {
        Bestratios x = with(-7, 3, 7, 3, -4, 2, 0, 5, BILLION, 999999999, 999999999, BILLION);
        due("14: below 0", x.text(0), "-7/3");
        due("14: above 0", x.text(1), "7/3");
        due("14: whole", x.text(2), "-2");
        due("14: 0", x.text(3), "0");
        int[] parts = {-7, 3, -1, -3, 7, 3, 1, 2, -2, 1, -1, -2, 0, 1, 0, 0};
        for (int k = 0; k < parts.length; k++) {
            due("15: part", x.part(k / 4, k % 4), parts[k]);
        }
        CHECKS.throwsArgument("15: what -1", () -> x.part(0, -1));
        CHECKS.throwsArgument("15: what 4", () -> x.part(0, 4));
        due("16: less", x.compare(0, 1), -1);
        due("16: greater", x.compare(1, 0), 1);
        due("16: the same", x.compare(1, 1), 0);
        due("16: both below 0", x.compare(0, 2), -1);
        due("16: near ones", x.compare(4, 5), 1);
        due("17: not next", x.areNext(0, 1), false);
        due("17: next by 1", with(1, 2, 1, 3).areNext(0, 1), true);
        due("17: next by -1", with(1, 3, 1, 2).areNext(0, 1), true);
        due("17: itself", x.areNext(2, 2), false);
        due("17: across 0", with(-1, 1, 0, 1).areNext(0, 1), true);
        due("17: two apart", with(-1, 1, 1, 1).areNext(0, 1), false);
    }

    // Promises 18, 19 and 20
    private static void termsOfRatios() {
        Bestratios x = with(7, 3, -3, 4, 5, 1, 1, BILLION, 701408733, 433494437);
        due("18: 7/3", x.terms(0), "2 3");
        due("18: -3/4", x.terms(1), "-1 4");
        due("18: whole", x.terms(2), "5");
        due("18: least", x.terms(3), "0 1000000000");
        due("18: many", x.terms(4).split(" ").length, 42);
        due("19: first", x.term(1, 0), -1);
        due("19: last", x.term(1, 1), 4);
        due("19: none", x.term(1, 2), -9);
        due("19: none by far", x.term(1, Integer.MAX_VALUE), -9);
        due("19: last of many", x.term(4, 41), 2);
        due("19: none of many", x.term(4, 42), -9);
        due("19: not counted", x.house(1), 0);
        CHECKS.throwsArgument("19: k -1", () -> x.term(1, -1));
        due("20: first", x.convergent(5, 0, 0), 1);
        due("20: first as text", x.text(5), "2");
        due("20: whole of it", x.convergent(5, 0, 1), 1);
        due("20: whole of it as text", x.text(5), "7/3");
        due("20: the same again", x.convergent(5, 0, 1), 0);
        due("20: into itself", x.convergent(4, 4, 4), 1);
        due("20: into itself as text", x.text(4), "8/5");
        due("20: none", x.convergent(5, 0, 2), -9);
        due("20: none by far", x.convergent(5, 0, Integer.MAX_VALUE), -9);
        due("20: counted", x.house(1), 2);
        CHECKS.throwsArgument("20: k -1", () -> x.convergent(5, 0, -1));
        x.put(0, -314159265, 100000000);
        x.convergent(5, 0, 2);
        due("20: below 0", x.text(5), "-22/7");
    }

    // Promises 21, 22 and 23
    private static void theRow() {
        Bestratios x = new Bestratios();
        due("21: first", x.say(-99999), 1);
        due("21: second", x.say(99999), 2);
        due("23: row", x.row(), "-99999 99999");
        CHECKS.throwsArgument("21: too great", () -> x.say(100000));
        CHECKS.throwsArgument("21: too low", () -> x.say(-100000));
        for (int k = 3; k <= 16; k++) {
            due("21: how many", x.say(0), k);
        }
        CHECKS.throwsState("21: full", () -> x.say(1));
        CHECKS.throwsArgument("21: wrong and full", () -> x.say(100000));
        due("21: how many then", x.house(3), 16);
        due("22: none", x.unsay(0), 16);
        due("22: some", x.unsay(13), 3);
        due("23: row again", x.row(), "-99999 99999 0");
        due("22: more than it has", x.unsay(4), 0);
        due("22: of none", x.unsay(16), 0);
        due("23: empty", x.row(), "");
        CHECKS.throwsArgument("22: many -1", () -> x.unsay(-1));
        CHECKS.throwsArgument("22: many 17", () -> x.unsay(17));
        due("21: behind what was left", x.say(4), 1);
        due("22: all", x.unsay(1), 0);
    }

    private static Bestratios said(int... terms) {
        Bestratios x = new Bestratios();
        for (int term : terms) {
            x.say(term);
        }
        return x;
    }

    private static String folded(int... terms) {
        Bestratios x = said(terms);
        int told = x.fold(3);
        return told + " " + x.text(3);
    }

    // Promise 24
    private static void folding() {
        due("24: alone", folded(-7), "1 -7");
        due("24: 0 alone", folded(0), "0 0");
        due("24: two", folded(2, 3), "1 7/3");
        due("24: last one 1", folded(2, 1, 1), "1 5/2");
        due("24: to 0", folded(-1, 1), "0 0");
        due("24: first 0", folded(0, 1, 1), "1 1/2");
        due("24: below 0", folded(-3, 99999), "1 -299996/99999");
        due("24: empty", folded(), "-9 0");
        due("24: 0 behind the first", folded(2, 0, 3), "-9 0");
        due("24: last one 0", folded(2, 0), "-9 0");
        due("24: below 0 behind the first", folded(2, 3, -1, 5), "-9 0");
        due("24: top too great", folded(99999, 99999), "-9 0");
        due("24: bottom fits", folded(0, 10000, 99999), "1 99999/999990001");
        due("24: bottom too great", folded(0, 10001, 99999), "-9 0");
        due("24: top fits", folded(10000, 99999), "1 999990001/99999");
        due("24: top too low", folded(-99999, 10001), "-9 0");
        int[] full = new int[16];
        java.util.Arrays.fill(full, 99999);
        due("24: all too great", folded(full), "-9 0");
        full[0] = -99999;
        due("24: all too low", folded(full), "-9 0");
        java.util.Arrays.fill(full, 1);
        due("24: sixteen", folded(full), "1 1597/987");
        Bestratios x = said(2, 3);
        x.fold(0);
        due("24: the row stays", x.row(), "2 3");
        due("24: the same again", x.fold(0), 0);
    }

    private static String lower(int top, int bottom, int n) {
        Bestratios x = with(top, bottom);
        x.lower(1, 0, n);
        return x.text(1);
    }

    private static String upper(int top, int bottom, int n) {
        Bestratios x = with(top, bottom);
        x.upper(1, 0, n);
        return x.text(1);
    }

    private static String best(int top, int bottom, int n) {
        Bestratios x = with(top, bottom);
        x.best(1, 0, n);
        return x.text(1);
    }

    // Promises 25 and 26
    private static void neighbours() {
        due("25: of pi by 106", lower(314159265, 100000000, 106), "333/106");
        due("25: of pi by 105", lower(314159265, 100000000, 105), "311/99");
        due("26: of pi by 106", upper(314159265, 100000000, 106), "22/7");
        due("25: by 1", lower(-3, 4, 1), "-1");
        due("26: by 1", upper(-3, 4, 1), "0");
        due("25: below 0", lower(-3, 4, 3), "-1");
        due("26: below 0", upper(-3, 4, 3), "-2/3");
        due("25: it is one", lower(-3, 4, 4), "-3/4");
        due("26: it is one", upper(-3, 4, 4), "-3/4");
        due("25: by 200", lower(1, BILLION, 200), "0");
        due("26: by 200", upper(1, BILLION, 200), "1/200");
        due("26: nearly 1", upper(999999999, BILLION, 200), "1");
        due("25: nearly 1", lower(999999999, BILLION, 200), "199/200");
        due("25: reduced", lower(501, 1000, 5), "1/2");
        due("25: of the greatest", lower(BILLION, 1, 200), "1000000000");
        due("25: of the least", lower(-BILLION, 3, 2), "-666666667/2");
        Bestratios x = with(5, 7);
        due("25: into itself", x.lower(0, 0, 4), 1);
        due("25: into itself as text", x.text(0), "2/3");
        due("25: the same again", x.lower(0, 0, 3), 0);
        due("26: the same again", x.upper(0, 0, 3), 0);
        CHECKS.throwsArgument("25: n 0", () -> x.lower(1, 0, 0));
        CHECKS.throwsArgument("25: n 201", () -> x.lower(1, 0, 201));
        CHECKS.throwsArgument("26: n 0", () -> x.upper(1, 0, 0));
        CHECKS.throwsArgument("26: n 201", () -> x.upper(1, 0, 201));
    }

    // Promise 27
    private static void bestOnes() {
        due("27: of pi by 113", best(314159265, 100000000, 113), "355/113");
        due("27: of pi by 10", best(314159265, 100000000, 10), "22/7");
        due("27: halves by 1", best(1, 2, 1), "0");
        due("27: halves below 0 by 1", best(-1, 2, 1), "-1");
        due("27: as near, lesser bottom below", best(1, 4, 2), "0");
        due("27: as near, lesser bottom above", best(3, 4, 2), "1");
        due("27: it is one", best(-17, 12, 12), "-17/12");
        due("27: nearer above", best(5, 7, 4), "3/4");
        Bestratios x = with(5, 7);
        due("27: into itself", x.best(0, 0, 4), 1);
        due("27: the same again", x.best(0, 0, 4), 0);
        CHECKS.throwsArgument("27: n 0", () -> x.best(1, 0, 0));
        CHECKS.throwsArgument("27: n 201", () -> x.best(1, 0, 201));
    }

    private static String down(int top, int bottom, boolean isRight) {
        Bestratios x = with(top, bottom);
        return x.down(0, isRight) + " " + x.text(0);
    }

    private static String up(int top, int bottom) {
        Bestratios x = with(top, bottom);
        return x.up(0) + " " + x.text(0);
    }

    // Promises 28 and 29
    private static void treeSteps() {
        due("29: left of 1", down(1, 1, false), "1 1/2");
        due("29: right of 1", down(1, 1, true), "1 2");
        due("29: left of 2", down(2, 1, false), "1 3/2");
        due("29: right of 2", down(2, 1, true), "1 3");
        due("29: left of 1/2", down(1, 2, false), "1 1/3");
        due("29: right of 1/2", down(1, 2, true), "1 2/3");
        due("29: left of 3/5", down(3, 5, false), "1 4/7");
        due("29: right of 3/5", down(3, 5, true), "1 5/8");
        due("29: of 0", down(0, 1, true), "-9 0");
        due("29: below 0", down(-1, 2, false), "-9 -1/2");
        due("29: right of the greatest", down(BILLION, 1, true), "-9 1000000000");
        due("29: left of the greatest", down(BILLION, 1, false), "-9 1000000000");
        due("29: left of half the greatest", down(500000000, 1, false), "1 999999999/2");
        due("28: of 1", up(1, 1), "-9 1");
        due("28: of 0", up(0, 1), "-9 0");
        due("28: below 0", up(-5, 2), "-9 -5/2");
        due("28: of 2", up(2, 1), "1 1");
        due("28: of 1/2", up(1, 2), "1 1");
        due("28: of 5/2", up(5, 2), "1 3");
        due("28: of 4/7", up(4, 7), "1 3/5");
        due("28: of 5/8", up(5, 8), "1 3/5");
        due("28: of the greatest", up(BILLION, 1), "1 999999999");
        due("28: of the least", up(1, BILLION), "1 1/999999999");
        due("28: near 1", up(999999999, BILLION), "1 999999998/999999999");
    }

    // Promises 30 and 31
    private static void waysAndDepths() {
        Bestratios x = with(1, 1, 3, 2, 1, BILLION, BILLION, 1, 0, 1, -1, 2);
        due("30: root", x.depth(0), 0);
        due("31: root", x.way(0), "");
        due("30: 3/2", x.depth(1), 2);
        due("31: 3/2", x.way(1), "R1 L1");
        due("30: least", x.depth(2), 999999999);
        due("31: least", x.way(2), "L999999999");
        due("30: greatest", x.depth(3), 999999999);
        due("31: greatest", x.way(3), "R999999999");
        due("30: 0", x.depth(4), -9);
        due("31: 0", x.way(4), "!");
        due("30: below 0", x.depth(5), -9);
        due("31: below 0", x.way(5), "!");
        due("30: not counted", x.house(1), 0);
        x.put(0, 43, 30);
        due("31: 43/30", x.way(0), "R1 L2 R3 L3");
        due("30: 43/30", x.depth(0), 9);
    }

    private static String next(int top, int bottom, int many) {
        Bestratios x = with(top, bottom);
        return x.next(0, many) + " " + x.text(0);
    }

    private static String before(int top, int bottom) {
        Bestratios x = with(top, bottom);
        return x.before(0) + " " + x.text(0);
    }

    // Promises 32 and 33
    private static void nextOnes() {
        int[] order = {1, 1, 1, 2, 2, 1, 1, 3, 3, 2, 2, 3, 3, 1, 1, 4};
        for (int k = 0; k + 3 < order.length; k += 2) {
            Bestratios to = with(order[k + 2], order[k + 3]);
            Bestratios from = with(order[k], order[k + 1]);
            due("32: one on", next(order[k], order[k + 1], 1), "1 " + to.text(0));
            due("33: one back", before(order[k + 2], order[k + 3]), "1 " + from.text(0));
        }
        due("32: fifty", next(2, 1, 50), "1 13/8");
        due("32: six", next(1, 1, 6), "1 3");
        due("32: of 0", next(0, 1, 1), "-9 0");
        due("32: below 0", next(-1, 2, 1), "-9 -1/2");
        due("32: the greatest", next(BILLION, 1, 1), "-9 1000000000");
        due("32: one on to a great one", next(1, 999999999, 1), "1 999999999/999999998");
        due("32: two on too great", next(1, 999999999, 2), "-9 1/999999999");
        // Five on stands 660000002/880000003, but those between do not fit.
        due("32: only those on the way", next(880000001, 660000001, 5), "-9 880000001/660000001");
        due("32: behind those on the way", next(660000002, 880000003, 1),
                "1 880000003/220000001");
        due("33: of 1", before(1, 1), "-9 1");
        due("33: of 0", before(0, 1), "-9 0");
        due("33: below 0", before(-2, 1), "-9 -2");
        due("33: too great", before(999999999, BILLION), "-9 999999999/1000000000");
        due("33: of the least", before(1, BILLION), "1 999999999");
        Bestratios x = with(2, 1);
        CHECKS.throwsArgument("32: many 0", () -> x.next(0, 0));
        CHECKS.throwsArgument("32: many 51", () -> x.next(0, 51));
        x.put(0, -2, 1);
        CHECKS.throwsArgument("32: many 0 below 0", () -> x.next(0, 0));
        due("32: nothing counted", x.house(1), 0);
    }

    private static String cuts(int top, int bottom, int places) {
        Bestratios x = with(top, bottom);
        StringBuilder all = new StringBuilder();
        for (int mode = 0; mode <= 4; mode++) {
            all.append(mode > 0 ? " " : "").append(x.cut(0, places, mode));
        }
        return all.toString();
    }

    // Promise 34
    private static void cutting() {
        due("34: 5/2", cuts(5, 2, 0), "2 2 3 3 2");
        due("34: -5/2", cuts(-5, 2, 0), "-2 -3 -2 -3 -2");
        due("34: 7/2", cuts(7, 2, 0), "3 3 4 4 4");
        due("34: -7/2", cuts(-7, 2, 0), "-3 -4 -3 -4 -4");
        due("34: 1/2", cuts(1, 2, 0), "0 0 1 1 0");
        due("34: -1/2", cuts(-1, 2, 0), "0 -1 0 -1 0");
        due("34: 2/3", cuts(2, 3, 2), "0.66 0.66 0.67 0.67 0.67");
        due("34: -1/3", cuts(-1, 3, 1), "-0.3 -0.4 -0.3 -0.3 -0.3");
        due("34: exact", cuts(-1, 2, 2), "-0.50 -0.50 -0.50 -0.50 -0.50");
        due("34: whole", cuts(-3, 1, 0), "-3 -3 -3 -3 -3");
        due("34: 0", cuts(0, 1, 2), "0.00 0.00 0.00 0.00 0.00");
        due("34: -1/8", cuts(-1, 8, 2), "-0.12 -0.13 -0.12 -0.13 -0.12");
        due("34: 3/8", cuts(3, 8, 2), "0.37 0.37 0.38 0.38 0.38");
        due("34: to no sign", cuts(-1, BILLION, 8),
                "0.00000000 -0.00000001 0.00000000 0.00000000 0.00000000");
        due("34: greatest", with(BILLION, 1).cut(0, 9, 3), "1000000000.000000000");
        due("34: least", with(-BILLION, 3).cut(0, 9, 1), "-333333333.333333334");
        due("34: nine places", with(1, BILLION).cut(0, 9, 1), "0.000000001");
        due("34: carried on", with(999999999, BILLION).cut(0, 8, 3), "1.00000000");
        Bestratios x = with(1, 2);
        CHECKS.throwsArgument("34: places -1", () -> x.cut(0, -1, 0));
        CHECKS.throwsArgument("34: places 10", () -> x.cut(0, 10, 0));
        CHECKS.throwsArgument("34: mode -1", () -> x.cut(0, 0, -1));
        CHECKS.throwsArgument("34: mode 5", () -> x.cut(0, 0, 5));
    }

    private static String simplest(int top, int bottom, int places, int mode) {
        Bestratios x = with(top, bottom);
        x.simplest(1, 0, places, mode);
        return x.text(1);
    }

    // Promise 35
    private static void simplestOnes() {
        due("35: a third", simplest(333, 1000, 2, 1), "1/3");
        due("35: a third on the side of 0", simplest(-333, 1000, 2, 0), "-1/3");
        due("35: not a third above", simplest(-33, 100, 2, 1), "-9/28");
        due("35: whole", simplest(5, 2, 0, 4), "2");
        due("35: odd whole", simplest(7, 2, 0, 3), "4");
        due("35: to 0", simplest(9, 1000, 2, 0), "0");
        due("35: from below to 0", simplest(-9, 1000, 2, 0), "0");
        due("35: not 0", simplest(-9, 1000, 2, 1), "-1/100");
        due("35: a tie that counts", simplest(1, 20, 1, 3), "1/7");
        due("35: a tie to the even", simplest(1, 20, 1, 4), "0");
        due("35: edge shut", simplest(1, 4, 1, 4), "1/4");
        due("35: edge open", simplest(26, 100, 1, 4), "1/3");
        due("35: pi", simplest(314159265, 100000000, 2, 3), "22/7");
        due("35: the greatest", simplest(BILLION, 1, 2, 3), "1000000000");
        due("35: a great one", simplest(BILLION, 3, 2, 1), "1000000000/3");
        Bestratios x = with(311, 100);
        due("35: into itself", x.simplest(0, 0, 1, 3), 1);
        due("35: into itself as text", x.text(0), "22/7");
        due("35: the same again", x.simplest(0, 0, 1, 3), 0);
        CHECKS.throwsArgument("35: places -1", () -> x.simplest(1, 0, -1, 0));
        CHECKS.throwsArgument("35: places 3", () -> x.simplest(1, 0, 3, 0));
        CHECKS.throwsArgument("35: mode -1", () -> x.simplest(1, 0, 0, -1));
        CHECKS.throwsArgument("35: mode 5", () -> x.simplest(1, 0, 0, 5));
    }

    private static String sums(Bestratios x) {
        return x.exact() + " " + x.rounded() + " " + x.error();
    }

    // Promises 36 to 40
    private static void tallying() {
        Bestratios x = with(5, 2, -1, 3, 1, 8);
        due("36: first", x.tally(0, 0, 4), 1);
        due("38 39 40: first", sums(x), "5/2 2 1/2");
        due("36: second", x.tally(1, 2, 1), 2);
        due("38 39 40: second", sums(x), "13/6 1.66 38/75");
        due("36: third", x.tally(2, 1, 2), 3);
        due("38 39 40: third", sums(x), "55/24 1.86 259/600");
        due("36: the ratio stays", x.text(2), "1/8");
        due("37: wipe", x.wipe(), 3);
        due("38 39 40: wiped", sums(x), "0 0 0");
        due("37: wipe again", x.wipe(), 0);
        due("36: places from anew", x.tally(1, 1, 0), 1);
        due("38 39 40: below 0", sums(x), "-1/3 -0.3 -1/30");
        x.negate(1);
        due("36: back to 0", x.tally(1, 1, 1), 2);
        due("39: no sign of 0", sums(x), "0 0.0 0");
        CHECKS.throwsArgument("36: places -1", () -> x.tally(0, -1, 0));
        CHECKS.throwsArgument("36: places 5", () -> x.tally(0, 5, 0));
        CHECKS.throwsArgument("36: mode -1", () -> x.tally(0, 0, -1));
        CHECKS.throwsArgument("36: mode 5", () -> x.tally(0, 0, 5));
        due("36: nothing came of those", x.house(4), 2);
    }

    // Promise 36: each sum that does not FIT
    private static void tallyRefusals() {
        Bestratios x = with(BILLION, 1, 1, 1, BILLION, 3, 1, 200003, 1, BILLION);
        due("36: greatest", x.tally(0, 0, 0), 1);
        due("36: EXACT too great", x.tally(1, 0, 0), -9);
        due("36: places of a refused one", x.tally(1, 4, 0), -9);
        due("36: as before", sums(x), "1000000000 1000000000 0");
        x.wipe();
        due("36: ROUNDED too great", x.tally(2, 2, 0), -9);
        due("36: ROUNDED fits", x.tally(2, 0, 0), 1);
        due("36: ROUNDED as text", sums(x), "1000000000/3 333333333 1/3");
        x.wipe();
        due("36: EXACT and ERROR fit", x.tally(3, 4, 2), -9);
        due("36: ERROR fits with 0", x.tally(3, 4, 1), 1);
        due("36: ERROR is EXACT", sums(x), "1/200003 0.0000 1/200003");
        x.wipe();
        due("36: ERROR of the least", x.tally(4, 4, 2), 1);
        due("36: ERROR of the least as text", sums(x), "1/1000000000 0.0001 -99999/1000000000");
        due("36: refusals", x.house(1), 4);
    }

    // Promises 41, 42 and 43
    private static void theWhole() {
        Bestratios x = with(1, 2, 2, 1, -3, 1);
        due("41: first", x.knock(), 1);
        due("41: second", x.knock(), 2);
        x.say(3);
        x.say(4);
        x.say(5);
        x.tally(0, 1, 0);
        x.invert(5);
        x.up(2);
        x.over(0, 0, 5);
        x.raise(5, -1);
        due("42: whole", x.house(0), 5);
        due("42: refusals", x.house(1), 4);
        due("42: knocks", x.house(2), 2);
        due("42: row", x.house(3), 3);
        due("42: tally", x.house(4), 1);
        CHECKS.throwsArgument("42: what -1", () -> x.house(-1));
        CHECKS.throwsArgument("42: what 5", () -> x.house(5));
        due("43: sound", x.isSound(), true);
        due("43: sound at first", new Bestratios().isSound(), true);
        Bestratios y = with(BILLION, 999999999, 999999999, BILLION, -BILLION, 999999999,
                -999999999, BILLION, 1, BILLION, BILLION, 1);
        due("43: sound at the greatest", y.isSound(), true);
        Bestratios z = with(701408733, 433494437, -433494437, 701408733, 999999937, 999999938,
                999999893, 999999929, 1, 999999937, -BILLION, 1);
        due("43: sound at the longest", z.isSound(), true);
        due("43: changes nothing", y.text(0) + " " + y.text(4) + " " + y.house(1),
                "1000000000/999999999 1/1000000000 0");
    }

    // Promise 44; ModelTest reckons the checksum of many other states
    private static void digests() {
        BigInteger d = BigInteger.valueOf(7846);
        int[] house = {6, 0, 0, 0, 0};
        int[] ratio = {0, 1, 0, 0, 1, -9, 1, 5, 5, 5, 5, 5};
        for (int v : house) {
            d = joined(d, v);
        }
        for (int k = 0; k < 6; k++) {
            for (int v : ratio) {
                d = joined(d, v);
            }
        }
        for (int k = 0; k < 30; k++) {
            d = joined(d, 0);
        }
        for (int k = 0; k < 4; k++) {
            d = joined(d, 1);
        }
        Bestratios x = new Bestratios();
        due("44: too long for 64 bits", d.bitLength() > 64, true);
        due("44: at first, wrapped around", x.digest(), d.longValue());
        due("44: again", x.digest(), d.longValue());
        x.knock();
        due("44: after a knock", x.digest() == d.longValue(), false);
    }

    private static BigInteger joined(BigInteger d, int v) {
        return d.multiply(BigInteger.valueOf(31)).add(BigInteger.valueOf(v));
    }

    // What is called on one object changes no other one
    private static void objectsOfTheirOwn() {
        Bestratios x = new Bestratios();
        Bestratios y = new Bestratios();
        long start = y.digest();
        x.put(0, 1, 2);
        x.say(7);
        x.tally(0, 1, 0);
        x.knock();
        x.up(1);
        due("1: no other object changes", y.digest(), start);
        due("1: nor a new one", new Bestratios().digest(), start);
    }

    // All promises with a RATIO: there is no such one
    private static void wrongRatios() {
        Bestratios x = new Bestratios();
        for (int r : WRONG_RATIOS) {
            CHECKS.throwsIndex("2", () -> x.put(r, 1, 2));
            CHECKS.throwsIndex("3", () -> x.putDecimal(r, 1, 2));
            CHECKS.throwsIndex("4", () -> x.copy(r, 0));
            CHECKS.throwsIndex("4", () -> x.copy(0, r));
            CHECKS.throwsIndex("5", () -> x.swap(r, 0));
            CHECKS.throwsIndex("5", () -> x.swap(0, r));
            CHECKS.throwsIndex("6", () -> x.plus(r, 0, 0));
            CHECKS.throwsIndex("6", () -> x.plus(0, r, 0));
            CHECKS.throwsIndex("6", () -> x.plus(0, 0, r));
            CHECKS.throwsIndex("7", () -> x.minus(r, 0, 0));
            CHECKS.throwsIndex("7", () -> x.minus(0, r, 0));
            CHECKS.throwsIndex("7", () -> x.minus(0, 0, r));
            CHECKS.throwsIndex("8", () -> x.times(r, 0, 0));
            CHECKS.throwsIndex("8", () -> x.times(0, r, 0));
            CHECKS.throwsIndex("8", () -> x.times(0, 0, r));
            CHECKS.throwsIndex("9", () -> x.over(r, 0, 0));
            CHECKS.throwsIndex("9", () -> x.over(0, r, 0));
            CHECKS.throwsIndex("9", () -> x.over(0, 0, r));
            CHECKS.throwsIndex("10", () -> x.negate(r));
            CHECKS.throwsIndex("11", () -> x.invert(r));
            CHECKS.throwsIndex("12", () -> x.raise(r, 1));
            CHECKS.throwsIndex("13", () -> x.mediant(r, 0, 0));
            CHECKS.throwsIndex("13", () -> x.mediant(0, r, 0));
            CHECKS.throwsIndex("13", () -> x.mediant(0, 0, r));
            CHECKS.throwsIndex("14", () -> x.text(r));
            CHECKS.throwsIndex("15", () -> x.part(r, 0));
            CHECKS.throwsIndex("16", () -> x.compare(r, 0));
            CHECKS.throwsIndex("16", () -> x.compare(0, r));
            CHECKS.throwsIndex("17", () -> x.areNext(r, 0));
            CHECKS.throwsIndex("17", () -> x.areNext(0, r));
            CHECKS.throwsIndex("18", () -> x.terms(r));
            CHECKS.throwsIndex("19", () -> x.term(r, 0));
            CHECKS.throwsIndex("20", () -> x.convergent(r, 0, 0));
            CHECKS.throwsIndex("20", () -> x.convergent(0, r, 0));
            CHECKS.throwsIndex("24", () -> x.fold(r));
            CHECKS.throwsIndex("25", () -> x.lower(r, 0, 1));
            CHECKS.throwsIndex("25", () -> x.lower(0, r, 1));
            CHECKS.throwsIndex("26", () -> x.upper(r, 0, 1));
            CHECKS.throwsIndex("26", () -> x.upper(0, r, 1));
            CHECKS.throwsIndex("27", () -> x.best(r, 0, 1));
            CHECKS.throwsIndex("27", () -> x.best(0, r, 1));
            CHECKS.throwsIndex("28", () -> x.up(r));
            CHECKS.throwsIndex("29", () -> x.down(r, true));
            CHECKS.throwsIndex("30", () -> x.depth(r));
            CHECKS.throwsIndex("31", () -> x.way(r));
            CHECKS.throwsIndex("32", () -> x.next(r, 1));
            CHECKS.throwsIndex("33", () -> x.before(r));
            CHECKS.throwsIndex("34", () -> x.cut(r, 0, 0));
            CHECKS.throwsIndex("35", () -> x.simplest(r, 0, 0, 0));
            CHECKS.throwsIndex("35", () -> x.simplest(0, r, 0, 0));
            CHECKS.throwsIndex("36", () -> x.tally(r, 0, 0));
        }
        due("an exception is not counted", x.house(1), 0);
    }

    // The exception that is named first goes ahead of the other one
    private static void orderOfExceptions() {
        Bestratios x = new Bestratios();
        for (int r : WRONG_RATIOS) {
            CHECKS.throwsIndex("2", () -> x.put(r, 1, 0));
            CHECKS.throwsIndex("3", () -> x.putDecimal(r, 1, 10));
            CHECKS.throwsIndex("12", () -> x.raise(r, 7));
            CHECKS.throwsIndex("15", () -> x.part(r, 4));
            CHECKS.throwsIndex("19", () -> x.term(r, -1));
            CHECKS.throwsIndex("20", () -> x.convergent(r, 0, -1));
            CHECKS.throwsIndex("20", () -> x.convergent(0, r, -1));
            CHECKS.throwsIndex("25", () -> x.lower(0, r, 0));
            CHECKS.throwsIndex("26", () -> x.upper(0, r, 0));
            CHECKS.throwsIndex("27", () -> x.best(0, r, 0));
            CHECKS.throwsIndex("32", () -> x.next(r, 0));
            CHECKS.throwsIndex("34", () -> x.cut(r, 10, 5));
            CHECKS.throwsIndex("35", () -> x.simplest(0, r, 3, 5));
            CHECKS.throwsIndex("36", () -> x.tally(r, 5, 5));
        }
        // An exception goes ahead of REFUSED
        CHECKS.throwsArgument("12: ahead of REFUSED", () -> x.raise(0, -7));
        CHECKS.throwsIndex("9: ahead of REFUSED", () -> x.over(6, 0, 0));
        CHECKS.throwsIndex("24: ahead of REFUSED", () -> x.fold(6));
        CHECKS.throwsArgument("32: ahead of REFUSED", () -> x.next(0, 51));
        due("none counted", x.house(1), 0);
    }

    private static void refusalsAreCounted() {
        Bestratios x = with(BILLION, 1, 1, BILLION, 0, 1, -1, 2, 999999999, BILLION);
        int[] told = {
            x.put(5, BILLION + 1, 1), x.putDecimal(5, BILLION + 1, 0), x.plus(5, 0, 0),
            x.minus(5, 3, 0), x.times(5, 0, 0), x.over(5, 0, 1), x.invert(2), x.raise(0, 2),
            x.mediant(5, 0, 3), x.convergent(5, 0, 1), x.fold(5), x.up(2), x.down(3, true),
            x.next(3, 1), x.before(4), x.tally(0, 0, 0), x.tally(0, 0, 0)
        };
        for (int k = 0; k < told.length; k++) {
            // A mediant that FITS, and the first one that came to the TALLY.
            due("refusal " + k, told[k], k == 8 || k == 15 ? 1 : -9);
        }
        due("each is counted", x.house(1), told.length - 2);
    }

    private static void refusalsChangeNothing() {
        Bestratios x = with(BILLION, 1, 1, BILLION, 0, 1, -1, 2, 999999999, BILLION, 2, 3);
        String start = all(x);
        refuseMany(x);
        due("nothing changes", all(x), start);
        due("but the count", x.house(1), 12);
    }

    private static void refuseMany(Bestratios x) {
        x.put(5, 1, BILLION + 1);
        x.putDecimal(5, BILLION + 1, 9);
        x.plus(5, 0, 0);
        x.times(5, 1, 1);
        x.over(5, 0, 2);
        x.invert(2);
        x.raise(4, 3);
        x.convergent(5, 0, 1);
        x.fold(5);
        x.down(4, true);
        x.next(0, 1);
        x.before(4);
    }

    private static String all(Bestratios x) {
        StringBuilder out = new StringBuilder();
        for (int k = 0; k < 6; k++) {
            out.append(x.text(k)).append(' ');
        }
        return out.append(x.row()).append(' ').append(sums(x)).toString();
    }
}
