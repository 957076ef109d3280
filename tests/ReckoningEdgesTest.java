import java.util.NoSuchElementException;

/** The boundary cases of part 5, 7 and 8: inequalities, equations, primes and roots. */
public final class ReckoningEdgesTest {
    private static final int MOST = Integer.MAX_VALUE;
    private static final int LEAST = Integer.MIN_VALUE;
    private final Due due;

    private ReckoningEdgesTest(Due due) {
        this.due = due;
    }

    public static void main(String[] args) {
        Due due = new Due();
        ReckoningEdgesTest test = new ReckoningEdgesTest(due);
        test.leastInequalities();
        test.cutNumbers();
        test.greatestNumbers();
        test.unknownConditions();
        test.weightConditions();
        test.tightOnes();
        test.withoutEquations();
        test.boundInTheLastOne();
        test.leastAmounts();
        test.leastModulus();
        test.equationConditions();
        test.modulusConditions();
        test.gaps();
        test.leastPrimes();
        test.greatestBounds();
        test.primeConditions();
        test.compositeReadings();
        test.productConditions();
        test.powers();
        test.withoutRoots();
        test.endsOfParts();
        test.rootsOnce();
        test.chains();
        test.partConditions();
        test.signConditions();
        test.cuts();
        due.end();
    }

    private void leastInequalities() {
        Desk l = new Desk(due, 'l', 1, 0);
        l.tells("nothing but the sum", 'y', 0, "1 0");
        l.bound(40).tells("the greatest bound", 'y', 40, "1 0");
        l.item(-9, 0, 0, 0, -60).tells("at least twenty thirds", 'y', 40, "3 20");
        l.bound(7).tells("just above", 'y', 7, "3 20");
        l.bound(6).tells("just below", 'n', 0, "6 1 9");
        Desk four = new Desk(due, 'l', 4, 40);
        four.tells("four unknowns", 'y', 40, "1 0 0 0 0");
        four.item(0, 0, 0, -1, -40).tells("all in the last one", 'y', 40, "1 0 0 0 40");
        four.bound(39).tells("one below", 'n', 0, "1 1 1");
        Desk never = new Desk(due, 'l', 2, 40).item(0, 0, 5, 5, -60);
        never.tells("numbers of unknowns that there are not", 'n', 0, "60 1 0");
        never.w.change(0, 0, 0, 0, 5, 5, 0);
        never.tells("both sides 0", 'y', 40, "1 0 0");
    }

    private void cutNumbers() {
        Desk half = new Desk(due, 'l', 1, 40).item(2, 0, 0, 0, 3);
        half.tells("one and a half are cut", 'y', 1, "1 0");
        half.w.change(0, 0, 2, 0, 0, 0, 4);
        half.tells("just two", 'y', 2, "1 0");
        half.w.change(0, 0, 9, 0, 0, 0, 8);
        half.tells("less than one", 'y', 0, "1 0");
        half.w.change(0, 0, 9, 0, 0, 0, -1);
        half.tells("0 with a refutation", 'n', 0, "1 1 0");
    }

    private void greatestNumbers() {
        Desk l = new Desk(due, 'l', 2, 40).item(9, -9, 0, 0, 60).item(-9, 9, 0, 0, -60).item(-9, -9, 0, 0, 0);
        l.tells("sixty ninths more", 'y', 40, "3 20 0");
        l.bound(6).tells("too much", 'n', 0, "6 0 1 0 9");
        for (int i = 3; i < 12; i++) {
            l.item(0, 0, 0, 0, 60);
        }
        l.tells("twelve items", 'n', 0, "6 0 1 0 0 0 0 0 0 0 0 0 0 9");
        l.fails("twelve are the most", IllegalStateException.class, () -> l.w.put(0, 0, 0, 0, 0, 0));
        Desk three = new Desk(due, 'l', 3, 40).item(1, 9, 4, 0, 18).item(0, -4, -2, 0, -4);
        three.tells("by the third one, though the second one would do", 'y', 12, "1 0 0 2");
        three.bound(2).tells("as much as the witness has", 'y', 2, "1 0 0 2");
        three.bound(1).tells("with the second one alone", 'y', 1, "1 0 1 0");
        three.bound(0).tells("too little", 'n', 0, "4 0 1 4");
    }

    private void unknownConditions() {
        Desk l = new Desk(due, 'l', 2, 3).item(-1, -1, 0, 0, -2);
        l.tells("at least two", 'y', 3, "1 0 2");
        l.witness("the empty one", 1);
        l.witness("one too few", 1, 1, 0);
        l.witness("one too many", 1, 1, 0, 2, 0);
        l.witness("the lower one is 0", 1, 0, 0, 2);
        l.witness("the lower one is below 0", 1, -1, 0, -2);
        l.witness("one below 0", 2, 1, -1, 3);
        l.witness("one below 0 ahead of what holds", 2, 1, 5, -1);
        l.witness("the item does not hold", 3, 1, 0, 1);
        l.witness("just so much", 0, 1, 2, 0);
        l.witness("as much as the bound", 0, 1, 1, 2);
        l.witness("more than the bound", 4, 1, 0, 4);
        l.witness("divisors in common are fine", 0, 2, 0, 4);
        l.witness("a half more than the bound", 4, 2, 0, 7);
        l.witness("exact below", 3, MOST, 0, MOST);
        l.witness("exact above", 4, 1, MOST, MOST);
        l.witness("least of all ints", 2, 1, LEAST, 2);
        l.witness("least of all ints", 1, LEAST, 0, 2);
        l.bound(40);
        l.witness("exact at once", 4, 53687092, MOST, MOST);
    }

    private void weightConditions() {
        Desk l = new Desk(due, 'l', 2, 1).item(-1, -1, 0, 0, -2);
        l.tells("more than the bound", 'n', 0, "1 1 1");
        l.refutation("accepted", 0, 1, 1, 1);
        l.refutation("the empty one", 1);
        l.refutation("one too few", 1, 1, 1);
        l.refutation("one too many", 1, 1, 1, 1, 0);
        l.refutation("the lower one is 0", 1, 0, 1, 1);
        l.refutation("the lower one is below 0", 1, -1, 1, 1);
        l.refutation("a weight below 0", 2, 1, -1, -1);
        l.refutation("an unknown below 0", 3, 1, 2, 1);
        l.refutation("the something is 0", 4, 1, 1, 2);
        l.refutation("the something is -2", 4, 1, 2, 2);
        l.refutation("other weights", 0, 1, 2, 3);
        l.refutation("divisors in common are fine", 0, 3, 3, 3);
        l.refutation("exact", 0, MOST, MOST, MOST);
        l.refutation("exact", 3, MOST, MOST, MOST - 1);
        l.refutation("exact", 4, 1, MOST, MOST);
        l.refutation("least of all ints", 2, 1, LEAST, 1);
        l.refutation("least of all ints", 1, LEAST, 1, 1);
        Desk wide = new Desk(due, 'l', 1, 32).item(-1, 0, 0, 0, -33);
        wide.refutation("exact beyond ints", 4, 1, 134217728, 138412032);
        wide.refutation("accepted", 0, 1, 1, 1);
    }

    private void tightOnes() {
        Desk l = new Desk(due, 'l', 2, 2).item(-1, -1, 0, 0, -2).item(0, 1, 0, 0, 3);
        due.is("both sides the same", true, l.w.isTight(0, 0));
        due.is("one less", false, l.w.isTight(0, 1));
        due.is("that of the sum", true, l.w.isTight(0, 2));
        l.fails("as many as there are items and 1", NoSuchElementException.class, () -> l.w.isTight(0, 3));
        l.bound(3);
        due.is("that of the sum is not", false, l.w.isTight(0, 2));
        l.bound(1);
        l.fails("a refutation", NoSuchElementException.class, () -> l.w.isTight(0, 0));
    }

    private void withoutEquations() {
        Desk d = new Desk(due, 'd', 4, -40);
        d.tells("no items", 'y', 0, "0 0 0 0");
        d.witness("anything", 0, MOST, LEAST, -1, 1);
        d.witness("one too few", 1, 0, 0, 0);
        d.refutation("a modulus alone", 3, 2);
        d.refutation("too small a modulus", 1, 1);
        d.refutation("the empty one", 1);
        due.is("the gap is one", 1, d.w.gap(0, 3));
    }

    private void boundInTheLastOne() {
        Desk d = new Desk(due, 'd', 1, 40).item(1, 0, 0, 0, -20);
        d.tells("the greatest bound, not e", 'y', 0, "40");
        d.bound(-40).tells("the least bound", 'y', 0, "-40");
        d.bound(20).item(0, 0, 0, 0, 7).tells("e where it is not the last one", 'n', 3, "3 0 1");
        d.bound(0).tells("both hold", 'y', 0, "-20");
        d.w.drop(0, 1);
        d.bound(5).tells("it is the last one again", 'y', 0, "5");
        d.item(1, 0, 0, 0, 9);
        d.w.drop(0, 0);
        d.tells("the later one is the last one", 'y', 0, "5");
        d.item(1, 0, 0, 0, 9);
        d.bound(9).tells("e of the first one now", 'y', 0, "9");
        d.fails("two are the most", IllegalStateException.class, () -> d.w.put(0, 0, 0, 0, 0, 0));
    }

    private void leastAmounts() {
        new Desk(due, 'd', 2, 3).item(6, 1).tells("the first one is 0", 'y', 0, "0 3");
        new Desk(due, 'd', 2, 3).item(1, 6).tells("of two the one above 0", 'y', 0, "3 0");
        new Desk(due, 'd', 2, 9).item(1, 6).tells("of two the one above 0", 'y', 0, "3 1");
        new Desk(due, 'd', 2, 4).item(1, 6).tells("the one below 0 is less", 'y', 0, "-2 1");
        new Desk(due, 'd', 2, -2).item(5, 3).tells("the least amount", 'y', 0, "-1 1");
        new Desk(due, 'd', 1, 0).item(6).tells("nought", 'y', 0, "0");
    }

    private void leastModulus() {
        new Desk(due, 'd', 1, 37).item(6).tells("two", 'n', 2, "2 1");
        new Desk(due, 'd', 1, 40).item(6).tells("three", 'n', 3, "3 1");
        new Desk(due, 'd', 1, 1).item(0).tells("nothing is 1", 'n', 2, "2 1");
        new Desk(due, 'd', 1, 2).item(0).tells("nothing is 2", 'n', 3, "3 1");
        new Desk(due, 'd', 1, 6).item(0).tells("nothing is 6", 'n', 4, "4 1");
        new Desk(due, 'd', 1, -12).item(0).tells("nothing is -12", 'n', 5, "5 1");
        new Desk(due, 'd', 1, 2).item(4).tells("of four", 'n', 4, "4 1");
        new Desk(due, 'd', 1, 40).item(1, 0, 0, 0, 20).item(1).tells("two of them", 'n', 3, "3 1 2");
        new Desk(due, 'd', 1, 0).item(0, 0, 0, 0, 12).item(1).tells("the first one alone", 'n', 5, "5 1 0");
    }

    private void equationConditions() {
        Desk d = new Desk(due, 'd', 1, -6).item(6);
        d.tells("minus one", 'y', 0, "-1");
        d.witness("accepted", 0, -1);
        d.witness("the empty one", 1);
        d.witness("one too many", 1, -1, 0);
        d.witness("another one", 2, 1);
        d.witness("exact", 2, MOST);
        d.witness("exact", 2, LEAST);
        Desk two = new Desk(due, 'd', 2, 4).item(1, 0, 0, 0, 3).item(0, 1);
        two.witness("the first one does not hold", 2, 4, 4);
        two.witness("the last one does not hold", 2, 3, 3);
        two.witness("both hold", 0, 3, 4);
    }

    private void modulusConditions() {
        Desk d = new Desk(due, 'd', 1, 37).item(6);
        d.refutation("accepted", 0, 2, 1);
        d.refutation("a greater modulus", 0, 3, 1);
        d.refutation("the empty one", 1);
        d.refutation("one too few", 1, 2);
        d.refutation("one too many", 1, 2, 1, 0);
        d.refutation("one", 1, 1, 1);
        d.refutation("nought", 1, 0, 1);
        d.refutation("below 0", 1, -2, 1);
        d.refutation("least of all ints", 1, LEAST, 1);
        d.refutation("no multiple in the unknown", 2, 5, 1);
        d.refutation("a multiple at the right", 3, 2, 2);
        d.refutation("nothing", 3, 2, 0);
        d.refutation("more than the modulus is not looked at", 0, 2, 3);
        d.refutation("below 0 is not looked at", 0, 2, -1);
        d.refutation("exact", 0, 2, MOST);
        d.refutation("exact", 2, MOST, 715827883);
        d.refutation("exact", 3, 2, LEAST);
    }

    private void gaps() {
        Desk d = new Desk(due, 'd', 3, 6).item(6, 4);
        due.is("by two", 2, d.w.gap(0, 0));
        due.is("by three", 3, d.w.gap(0, 1));
        due.is("by one", 1, d.w.gap(0, 2));
        d.fails("no unknown", IllegalArgumentException.class, () -> d.w.gap(0, 3));
        d.fails("no unknown", IllegalArgumentException.class, () -> d.w.gap(0, -1));
        d.bound(5);
        d.fails("a refutation", NoSuchElementException.class, () -> d.w.gap(0, 0));
        d.fails("no unknown is told first", IllegalArgumentException.class, () -> d.w.gap(0, 3));
        Desk fixed = new Desk(due, 'd', 2, 6).item(2, 0);
        due.is("it cannot", 0, fixed.w.gap(0, 0));
        due.is("the other one can", 1, fixed.w.gap(0, 1));
    }

    private void leastPrimes() {
        Desk n = new Desk(due, 'n', 1, 2);
        n.tells("two", 'y', 2, "2");
        n.bound(3).tells("three", 'y', 3, "3 2 2");
        n.bound(4).tells("four", 'n', 2, "2 2");
        n.bound(5).tells("five", 'y', 5, "5 2 2");
        n.bound(7).tells("seven", 'y', 7, "7 3 2 3 2 2");
        n.bound(9).tells("nine", 'n', 3, "3 3");
        n.bound(41).tells("the base is the least", 'y', 41, "41 6 2 5 2 2");
    }

    private void greatestBounds() {
        Desk n = new Desk(due, 'n', 1, 9999);
        n.tells("the greatest bound", 'n', 3, "3 3333");
        n.bound(9998).tells("one less", 'n', 2, "2 4999");
        n.bound(9409).tells("ninety-seven twice", 'n', 97, "97 97");
        n.bound(9973).tells("the greatest prime", 'y', 9973,
                "9973 11 2 3 2 2 277 5 2 3 2 2 23 5 2 11 2 2 5 2 2");
    }

    private void primeConditions() {
        Desk n = new Desk(due, 'n', 1, 7);
        n.witness("accepted", 0, 7, 3, 2, 3, 2, 2);
        n.witness("another base", 0, 7, 5, 2, 3, 2, 2);
        n.witness("the empty one", 1);
        n.witness("one", 1, 1);
        n.witness("nought", 1, 0);
        n.witness("below 0", 1, -7, 3, 2, 3, 2, 2);
        n.witness("without a base", 1, 7);
        n.witness("the base 0", 1, 7, 0, 2, 3, 2, 2);
        n.witness("the base p", 1, 7, 7, 2, 3, 2, 2);
        n.witness("a row is missing", 1, 7, 3, 2);
        n.witness("a row is not at its end", 1, 7, 3, 2, 3, 2);
        n.witness("not rising", 1, 7, 3, 3, 2, 2, 2);
        n.witness("one twice", 1, 7, 3, 2, 2, 3, 2, 2);
        n.witness("it does not divide", 1, 7, 3, 5, 2, 2);
        n.witness("more behind it", 1, 7, 3, 2, 3, 2, 2, 2);
        n.witness("another first number", 2, 2);
        n.witness("another first number", 2, 3, 2, 2);
        n.witness("the base 1", 3, 7, 1, 2, 3, 2, 2);
        n.witness("a lower power by 2", 3, 7, 2, 2, 3, 2, 2);
        n.witness("a lower power by 3", 3, 7, 6, 2, 3, 2, 2);
        n.witness("a wrong base of three", 3, 7, 3, 2, 3, 1, 2);
        n.witness("greatest of all ints", 1, MOST, 2, MOST - 1, 1, 2);
        n.bound(2);
        n.witness("two alone", 0, 2);
        n.witness("two with a base", 1, 2, 1);
        n.witness("three", 2, 3, 2, 2);
    }

    private void compositeReadings() {
        Desk n = new Desk(due, 'n', 1, 4);
        n.witness("it can be read so", 3, 4, 1, 3, 2, 2);
        n.witness("its powers", 3, 4, 3, 3, 2, 2);
        n.bound(7);
        n.witness("a part that is no prime", 3, 7, 3, 6, 1, 5, 2, 2);
        n.bound(9);
        n.witness("eight is taken away at once", 3, 9, 2, 8, 1, 7, 3, 2, 3, 2, 2);
        n.witness("eight by four leaves two", 1, 9, 2, 4, 1, 3, 2, 2);
        n.bound(31);
        n.witness("six at once, and five", 1, 31, 3, 6, 1, 5, 2, 2, 5, 2, 2);
        n.witness("five, and six at once", 3, 31, 3, 5, 2, 2, 6, 1, 5, 2, 2);
    }

    private void productConditions() {
        Desk n = new Desk(due, 'n', 1, 8);
        n.refutation("accepted", 0, 2, 4);
        n.refutation("not the least one", 0, 4, 2);
        n.refutation("the empty one", 1);
        n.refutation("one", 1, 8);
        n.refutation("three", 1, 2, 2, 2);
        n.refutation("not above 1", 1, 1, 8);
        n.refutation("not above 1", 1, 8, 1);
        n.refutation("below 0", 1, -2, -4);
        n.refutation("another product", 2, 2, 3);
        n.refutation("exact", 2, 3, 1431655768);
        n.bound(9);
        n.refutation("three twice", 0, 3, 3);
    }

    private void powers() {
        Desk n = new Desk(due, 'n', 1, 2);
        due.is("by 0", 1, n.w.power(0, 0, 0));
        due.is("of 0", 0, n.w.power(0, 0, 1));
        due.is("of the bound", 0, n.w.power(0, 2, 9999));
        due.is("of the greatest base", 1, n.w.power(0, 9999, 9999));
        due.is("the order of 1", 1, n.w.orderOf(0, 1));
        due.is("the order of the greatest base", 1, n.w.orderOf(0, 9999));
        n.fails("none of 0", NoSuchElementException.class, () -> n.w.orderOf(0, 0));
        n.fails("none of the bound", NoSuchElementException.class, () -> n.w.orderOf(0, 2));
        n.bound(9999);
        due.is("of the greatest base by the greatest bound", 0, n.w.power(0, 9999, 9999));
        due.is("of one less", 9998, n.w.power(0, 9998, 9999));
        due.is("its order", 2, n.w.orderOf(0, 9998));
        n.fails("none with a divisor in common", NoSuchElementException.class, () -> n.w.orderOf(0, 3));
        n.fails("none of the bound", NoSuchElementException.class, () -> n.w.orderOf(0, 9999));
        n.bound(9973);
        due.is("the greatest order", 9972, n.w.orderOf(0, 11));
        due.is("one less", 1, n.w.power(0, 11, 9972));
        n.fails("base", IllegalArgumentException.class, () -> n.w.power(0, LEAST, 0));
        n.fails("base", IllegalArgumentException.class, () -> n.w.power(0, MOST, 0));
        n.fails("exponent", IllegalArgumentException.class, () -> n.w.power(0, 0, MOST));
    }

    private void withoutRoots() {
        Desk r = new Desk(due, 'r', 1, 0);
        r.tells("without an item", 'y', 0, "");
        r.witness("the empty one", 0);
        r.witness("none of its parts", 4, 0, 0);
        r.refutation("just as many as the bound", 3);
        r.bound(1).tells("one more", 'n', 0, "");
        r.refutation("the empty one", 0);
        r.refutation("signs of nothing", 1, 1, 1);
        r.witness("the empty one", 3);
        r.item(0, 0, 0, 0, 9).tells("four numbers that are 0", 'n', 0, "");
        r.refutation("the empty one", 0);
        r.w.change(0, 0, -7, 0, 0, 0, 0);
        r.tells("without z", 'n', 0, "1 1");
        r.refutation("the empty one", 1);
        r.refutation("1 has one sign", 2, -1, -1);
        r.bound(0).tells("no parts", 'y', 0, "");
        r.bound(3).tells("the greatest bound", 'n', 0, "1 1");
        r.fails("one item is the most", IllegalStateException.class, () -> r.w.put(0, 0, 0, 0, 0, 0));
    }

    private void endsOfParts() {
        Desk r = new Desk(due, 'r', 1, 2).item(0, -1, 1);
        r.tells("nought and one", 'y', 2, "1 0 1 1");
        due.is("the upper end belongs to a part", 1, r.w.rootsIn(0, 1, 0));
        due.is("the lower one does not", 1, r.w.rootsIn(0, 1, 1));
        r.bound(3).tells("one more", 'n', 2, "1 -1 1 1 1 1");
        Desk near = new Desk(due, 'r', 1, 2).item(0, 1, 1);
        near.tells("minus one and nought", 'y', 2, "4 6 4 7");
        Desk seven = new Desk(due, 'r', 1, 1).item(7, 1);
        seven.tells("minus seven", 'y', 1, "0 0");
        due.is("the first part of sixteen ends there", 1, seven.w.rootsIn(0, 4, 0));
        Desk far = new Desk(due, 'r', 1, 1).item(-7, -7, -7, 1);
        far.tells("just below eight", 'y', 1, "0 0");
        due.is("in the last part", 1, far.w.rootsIn(0, 10, 1023));
    }

    private void rootsOnce() {
        new Desk(due, 'r', 1, 1).item(0, 0, 0, 5).tells("nought three times", 'y', 1, "0 0");
        new Desk(due, 'r', 1, 2).item(1, -2, 1).tells("one twice", 'n', 1, "-1 1 1 1");
        new Desk(due, 'r', 1, 2).item(0, 0, -1, 1).tells("nought twice and one", 'y', 2, "1 0 1 1");
        new Desk(due, 'r', 1, 3).item(0, -1, 0, 1).tells("three", 'y', 3, "4 6 4 7 1 1");
        new Desk(due, 'r', 1, 2).item(-2, 0, 1).tells("no fractions", 'y', 2, "1 0 1 1");
        Desk half = new Desk(due, 'r', 1, 2).item(0, 1, -4, 4);
        half.tells("nought, and a half twice", 'y', 2, "1 0 1 1");
        due.is("a half is the upper end of its part", 1, half.w.rootsIn(0, 5, 16));
        due.is("nothing above it", 0, half.w.rootsIn(0, 5, 17));
    }

    private void chains() {
        new Desk(due, 'r', 1, 1).item(1, 0, 1).tells("three of them", 'n', 0, "1 -1 -1 1 1 -1");
        new Desk(due, 'r', 1, 3).item(1, 0, -1).tells("the highest one above 0", 'n', 2, "1 -1 1 1 1 1");
        new Desk(due, 'r', 1, 3).item(0, 0, -3, 3).tells("divided by z", 'n', 2, "1 -1 1 1 1 1");
        new Desk(due, 'r', 1, 2).item(1, 0, 0, 1).tells("a rest without z", 'n', 1, "-1 1 -1 1 1 -1");
    }

    private void partConditions() {
        Desk r = new Desk(due, 'r', 1, 2).item(-2, 0, 1);
        r.witness("accepted", 0, 1, 0, 1, 1);
        r.witness("narrower ones", 0, 3, 3, 3, 4);
        r.witness("an odd number", 1, 1);
        r.witness("an odd number", 1, 1, 0, 1);
        r.witness("17 cuts", 1, 1, 0, 17, 70000);
        r.witness("16 cuts", 4, 16, 0, 16, 65535);
        r.witness("beyond the last part", 1, 1, 0, 16, 65536);
        r.witness("below 0 cuts", 1, -1, 0, 1, 1);
        r.witness("beyond the last part", 1, 1, 0, 1, 2);
        r.witness("below the first part", 1, 1, -1, 1, 1);
        r.witness("beyond the whole line", 1, 0, 1, 1, 1);
        r.witness("greatest of all ints", 1, MOST, 0, 1, 1);
        r.witness("least of all ints", 1, LEAST, 0, 1, 1);
        r.witness("greatest of all ints", 1, 1, MOST, 1, 1);
        r.witness("31 and 32 cuts", 1, 31, 0, 32, 0);
        r.witness("not rising", 2, 1, 1, 1, 0);
        r.witness("one twice", 2, 1, 0, 1, 0);
        r.witness("one within another one", 2, 0, 0, 1, 1);
        r.witness("one within another one", 2, 1, 0, 2, 1);
        r.witness("just above", 0, 1, 0, 2, 2);
        r.witness("one too few", 3, 1, 0);
        r.witness("the empty one", 3);
        r.witness("a part without roots", 4, 2, 0, 2, 2);
        r.bound(1);
        r.witness("more than the bound", 0, 1, 0, 1, 1);
        r.witness("two roots less none", 0, 0, 0);
    }

    private void signConditions() {
        Desk r = new Desk(due, 'r', 1, 3).item(-2, 0, 1);
        r.refutation("accepted", 0, 1, -1, 1, 1, 1, 1);
        r.refutation("one too few", 1, 1, -1, 1, 1, 1);
        r.refutation("one too many", 1, 1, -1, 1, 1, 1, 1, 1);
        r.refutation("the empty one", 1);
        r.refutation("another sign", 2, 1, -1, 1, 1, 1, 0);
        r.refutation("another sign", 2, -1, -1, 1, 1, 1, 1);
        r.refutation("no sign", 2, 2, -1, 1, 1, 1, 1);
        r.bound(2);
        r.refutation("as many as the bound", 3, 1, -1, 1, 1, 1, 1);
    }

    private void cuts() {
        Desk r = new Desk(due, 'r', 1, 0).item(0, 1);
        due.is("the whole line", 1, r.w.rootsIn(0, 0, 0));
        due.is("ten cuts", 1, r.w.rootsIn(0, 10, 511));
        due.is("ten cuts", 0, r.w.rootsIn(0, 10, 512));
        r.fails("eleven cuts", IllegalArgumentException.class, () -> r.w.rootsIn(0, 11, 0));
        r.fails("beyond the whole line", IllegalArgumentException.class, () -> r.w.rootsIn(0, 0, 1));
        r.fails("below the first part", IllegalArgumentException.class, () -> r.w.rootsIn(0, 0, -1));
        r.fails("beyond the last part", IllegalArgumentException.class, () -> r.w.rootsIn(0, 10, 1024));
        r.fails("32 cuts", IllegalArgumentException.class, () -> r.w.rootsIn(0, 32, 0));
        r.fails("below 0 cuts", IllegalArgumentException.class, () -> r.w.rootsIn(0, -1, 0));
    }
}
