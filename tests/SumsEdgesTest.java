import java.math.BigInteger;

/** The boundary cases of sums over rows and the book, and of what is sound. */
public final class SumsEdgesTest {
    private static final Class<?> NO_ENTRY = IndexOutOfBoundsException.class;
    private static final Class<?> NOTHING = ArithmeticException.class;
    private static final int MOST = Integer.MAX_VALUE;
    private static final int LEAST = Integer.MIN_VALUE;
    private static final String KINDS = "mfplsdnrgwax";
    private final Due due;

    private SumsEdgesTest(Due due) {
        this.due = due;
    }

    public static void main(String[] args) {
        Due due = new Due();
        SumsEdgesTest test = new SumsEdgesTest(due);
        test.newObject();
        test.sharesOfEveryBook();
        test.meansOfEveryBook();
        test.longRows();
        test.emptyRowsAlone();
        test.sumsOfRows();
        test.sumsThatWrapAround();
        test.sumsOfNegativeNumbers();
        test.sumOfTheBook();
        test.sumsByLeaning();
        test.sumsOfNoMore();
        test.soundWithClaims();
        test.soundWhenCarried();
        test.signsAtTheEnds();
        due.end();
    }

    /** Promise 1: nothing is there at first, whatever is asked. */
    private void newObject() {
        Witnessworks w = new Witnessworks();
        due.is("entries", 0, w.entries());
        due.is("standing", 0, w.standing());
        due.is("errata", 0, w.errata());
        due.is("typed", 0, w.wipe());
        due.is("sum", 7L, w.checksum());
        due.is("sound", true, w.isSound());
        due.fails("no share", NOTHING, () -> w.yesShare());
        due.fails("no mean", NOTHING, () -> w.meanLength());
        due.fails("no person", NO_ENTRY, () -> w.points(0));
        due.fails("nothing to undo", java.util.NoSuchElementException.class, () -> w.undo());
        due.is("settled", 0, w.settle());
        for (int none : new int[] {0, -1, 1, 11, 12, MOST, LEAST}) {
            due.fails("no entry", NO_ENTRY, () -> w.kindOf(none));
            due.fails("no entry", NO_ENTRY, () -> w.answer(none));
            due.fails("no entry", NO_ENTRY, () -> w.check(none, true));
            due.fails("no entry", NO_ENTRY, () -> w.rowSum(none));
        }
        Witnessworks other = new Witnessworks();
        other.open('n', 1, 7);
        due.is("of another object", 0, w.entries());
    }

    private void sharesOfEveryBook() {
        for (int all = 1; all <= 12; all++) {
            for (int yes = 0; yes <= all; yes++) {
                Witnessworks w = new Witnessworks();
                for (int i = 0; i < all; i++) {
                    w.open('n', 1, i < yes ? 7 : 8);
                }
                due.is(yes + " of " + all, (float) yes / (float) all, w.yesShare());
            }
        }
        Witnessworks w = new Witnessworks();
        w.open('n', 1, 8);
        due.is("none", 0.0f, w.yesShare());
        w.undo();
        due.fails("no entries again", NOTHING, () -> w.yesShare());
    }

    private void meansOfEveryBook() {
        int[] bounds = {2, 4, 3, 7, 9973, 9999, 2, 2, 5, 11, 13, 4};
        Witnessworks w = new Witnessworks();
        int sum = 0;
        for (int i = 0; i < 12; i++) {
            w.open('n', 1, bounds[i]);
            sum += w.length(i);
            due.is("of " + (i + 1), (double) sum / (double) (i + 1), w.meanLength());
        }
        for (int i = 11; i > 0; i--) {
            sum -= w.length(i);
            w.undo();
            due.is("of " + i, (double) sum / (double) i, w.meanLength());
        }
        w.undo();
        due.fails("no entries again", NOTHING, () -> w.meanLength());
    }

    /** The even permutations of six points: the row of all that five points can be led to. */
    private void longRows() {
        Witnessworks w = new Witnessworks();
        w.open('g', 6, 2);
        w.put(0, 1, 0, 2, 3, 4);
        w.put(0, 1, 2, 0, 3, 4);
        w.put(0, 0, 2, 3, 4, 5);
        due.is("even ones", 360, w.number(0));
        due.is("k and all of them", 361, w.length(0));
        due.is("five points", 5, w.sign(0, 0));
        due.is("the greatest row, as that with 1 at its end is odd", 5 * 1296 + 4 * 216 + 3 * 36 + 2 * 6,
                w.sign(0, 360));
        due.fails("behind it", java.util.NoSuchElementException.class, () -> w.sign(0, 361));
        due.fails("too long to borrow", UnsupportedOperationException.class, () -> w.borrow(0));
        due.is("mean", 361.0, w.meanLength());
        due.is("sum", sumOf(w, 0), w.rowSum(0));
        due.is("sound", true, w.isSound());
        w.open('r', 1, 0);
        due.is("mean", 180.5, w.meanLength());
        w.open('r', 1, 0);
        due.is("mean", 361.0 / 3.0, w.meanLength());
    }

    private void emptyRowsAlone() {
        Witnessworks w = new Witnessworks();
        w.open('r', 1, 0);
        due.is("mean", 0.0, w.meanLength());
        due.is("sum", 7L, w.rowSum(0));
        due.is("sum of the book", ((((7L * 31 + 0) * 31 + 0) * 31 + 'y') * 31) + 7, w.checksum());
        w.setBound(0, 3);
        due.is("sum of the book", ((((7L * 31 + 3) * 31 + 0) * 31 + 'n') * 31) + 7, w.checksum());
    }

    private static long sumOf(Witnessworks w, int entry) {
        BigInteger sum = BigInteger.valueOf(7);
        int many = w.length(entry);
        for (int i = 0; i < many; i++) {
            sum = sum.multiply(BigInteger.valueOf(31)).add(BigInteger.valueOf(w.sign(entry, i)));
        }
        return sum.longValue();
    }

    private void sumsOfRows() {
        Witnessworks w = new Witnessworks();
        w.open('n', 1, 2);
        due.is("one number", 31L * 7 + 2, w.rowSum(0));
        w.setBound(0, 4);
        due.is("two numbers", 31L * (31 * 7 + 2) + 2, w.rowSum(0));
        w.setBound(0, 9973);
        due.is("22 numbers", sumOf(w, 0), w.rowSum(0));
    }

    private void sumsThatWrapAround() {
        Witnessworks w = new Witnessworks();
        w.open('w', 1, 7);
        w.put(0, 1, 255, 0, 0, 0);
        w.put(0, 2, 1, 0, 0, 0);
        w.put(0, 3, 7, 0, 0, 0);
        due.is("all words of noughts", 'n', w.answer(0));
        due.is("sum", sumOf(w, 0), w.rowSum(0));
        w.change(0, 0, 1, 128, 0, 0, 0);
        due.is("eight steps", "1 2 4 8 16 32 64 128", Due.row(w, 0));
        w.open('w', 1, 7);
        w.put(1, 255, 1, 0, 0, 0);
        for (int i = 0; i < 3; i++) {
            w.put(1, 2, 3, 0, 0, 0);
        }
        due.is("all of seven letters", 128, w.length(1));
        due.is("sum of 128 numbers", sumOf(w, 1), w.rowSum(1));
    }

    private void sumsOfNegativeNumbers() {
        Witnessworks w = new Witnessworks();
        w.open('d', 1, -40);
        w.put(0, 1, 0, 0, 0, 0);
        due.is("below 0", -40, w.sign(0, 0));
        due.is("sum", 31L * 7 - 40, w.rowSum(0));
        due.is("bound below 0", ((((7L * 31 - 40) * 31 + 0) * 31 + 'y') * 31) + 31 * 7 - 40, w.checksum());
        w.open('s', 1, 0);
        w.put(1, 1, 0, 0, 0, 0);
        due.is("0 and -1", 31L * (31 * 7) - 1, w.rowSum(1));
        w.open('x', 2, 0);
        w.put(2, 1, 1, 0, -1, -1);
        due.is("0 and -1", 31L * (31 * 7) - 1, w.rowSum(2));
    }

    private static long bookSum(Witnessworks w) {
        long sum = 7;
        for (int i = 0; i < w.entries(); i++) {
            sum = 31 * sum + w.boundOf(i);
            sum = 31 * sum + w.number(i);
            sum = 31 * sum + w.answer(i);
            sum = 31 * sum + w.rowSum(i);
        }
        return sum;
    }

    private void sumOfTheBook() {
        Witnessworks w = new Witnessworks();
        for (int i = 0; i < 12; i++) {
            char kind = KINDS.charAt(i);
            w.open(kind, kind == 'f' || kind == 'g' ? 2 : 1, 2);
            due.is("of " + (i + 1), bookSum(w), w.checksum());
        }
        long all = w.checksum();
        w.person();
        w.type(5);
        w.settle();
        due.is("neither claims nor settlings count", all, w.checksum());
        w.put(9, 1, 1, 7, 7, 7);
        due.is("nor items by themselves", all, w.checksum());
        w.setBound(9, 3);
        due.is("bounds do", true, all != w.checksum());
        w.undo();
        due.is("as it was", all, w.checksum());
    }

    private void sumsByLeaning() {
        Witnessworks w = new Witnessworks();
        w.open('m', 3, 0);
        w.open('n', 1, 2);
        w.lean(0, 1, -2);
        w.setBound(1, 3);
        due.is("the bound as it is now", bookSum(w), w.checksum());
        due.is("the bound as it is now", 1, w.boundOf(0));
        due.is("share", 0.5f, w.yesShare());
        w.setBound(1, 5);
        due.is("share", 1.0f, w.yesShare());
        due.is("mean", (3.0 + 3.0) / 2.0, w.meanLength());
        w.setBound(1, 2);
        due.is("mean", (0.0 + 1.0) / 2.0, w.meanLength());
        due.is("the bound as it is now", bookSum(w), w.checksum());
    }

    private void sumsOfNoMore() {
        Witnessworks w = new Witnessworks();
        w.open('n', 1, 7);
        long one = w.checksum();
        w.open('g', 6, 4);
        w.undo();
        due.is("nothing is left of it", one, w.checksum());
        due.is("nothing is left of it", 1.0f, w.yesShare());
        due.is("nothing is left of it", 6.0, w.meanLength());
    }

    /** What was accepted once may be of the other sort than the answer now, if it is not accepted any more. */
    private void soundWithClaims() {
        Witnessworks w = new Witnessworks();
        w.person();
        w.open('m', 2, 2);
        w.typeMore(2, 0, 1, 0, 0, 0, 0, 0, 0);
        due.is("both alone", 0, w.claim(0, 0, true));
        due.is("of the same sort", true, w.isSound());
        w.setBound(0, 1);
        due.is("it is answered otherwise now", 'n', w.answer(0));
        due.is("not accepted now", true, w.isSound());
        w.put(0, 0, 1, 0, 0, 0);
        due.is("of the same sort, not accepted now", true, w.isSound());
        w.settle();
        due.is("none stands", 0, w.standing());
        due.is("sound", true, w.isSound());
        w.open('r', 1, 0);
        w.wipe();
        due.is("the row without numbers", 0, w.claim(0, 1, true));
        w.setBound(1, 1);
        due.is("as a refutation too", 0, w.claim(0, 1, false));
        due.is("the first one is not accepted now", true, w.isSound());
        w.setBound(1, 0);
        due.is("the second one is not accepted now", true, w.isSound());
    }

    private void soundWhenCarried() {
        Witnessworks w = new Witnessworks();
        w.open('m', 2, 0);
        w.put(0, 0, 1, 0, 0, 0);
        w.carry(0, 'f');
        w.carry(0, 's');
        due.is("answered alike", "yyy", "" + w.answer(0) + w.answer(1) + w.answer(2));
        due.is("sound", true, w.isSound());
        w.setBound(1, 60);
        due.is("answered otherwise", "yny", "" + w.answer(0) + w.answer(1) + w.answer(2));
        due.is("but it would not be carried over so", true, w.isSound());
        w.setBound(0, 1);
        due.is("nor the other one", true, w.isSound());
        w.drop(2, 0);
        w.put(2, -1, 0, 0, 0, 0);
        due.is("answered otherwise", 'n', w.answer(2));
        due.is("sound", true, w.isSound());
    }

    private void signsAtTheEnds() {
        Witnessworks w = new Witnessworks();
        w.open('n', 1, 7);
        due.is("the first one", 7, w.sign(0, 0));
        due.is("the last one", 2, w.sign(0, 5));
        for (int none : new int[] {-1, 6, MOST, LEAST}) {
            due.fails("no place", java.util.NoSuchElementException.class, () -> w.sign(0, none));
        }
        w.setBound(0, 2);
        due.is("one number", 1, w.length(0));
        due.fails("behind it", java.util.NoSuchElementException.class, () -> w.sign(0, 1));
        w.open('f', 2, 0);
        due.is("no number", 0, w.length(1));
        due.fails("no place", java.util.NoSuchElementException.class, () -> w.sign(1, 0));
    }
}
