import java.util.NoSuchElementException;

/** The boundary cases of a bound that leans: the least and the greatest it can be, and on what it cannot lean. */
public final class LeaningEdgesTest {
    private static final Class<?> NOT_SO = UnsupportedOperationException.class;
    private static final Class<?> NONE = NoSuchElementException.class;
    private static final Class<?> BAD = IllegalArgumentException.class;
    private static final String KINDS = "mfplsdnrgwax";
    private static final int[] SIZES = {9, 7, 7, 4, 6, 4, 1, 1, 6, 1, 8, 7};
    private static final int[] LEAST = {0, 0, 0, 0, 0, -40, 2, 0, 0, 0, 0, 0};
    private static final int[] GREATEST = {9, 60, 11, 40, 6, 40, 9999, 3, 4, 7, 7, 6};
    private static final int[] PRIMES = {2, 3, 5, 7, 11, 19, 23, 37, 53, 59, 61, 67, 79, 83, 9973};
    private final Due due;

    private LeaningEdgesTest(Due due) {
        this.due = due;
    }

    public static void main(String[] args) {
        Due due = new Due();
        LeaningEdgesTest test = new LeaningEdgesTest(due);
        test.leastAndGreatest();
        test.asIfToldSo();
        test.onNought();
        test.plus();
        test.notRound();
        test.twelveInARow();
        test.standing();
        test.endsByAnother();
        test.refusedOnesEndNothing();
        test.clampedAndBack();
        test.numbersOfAllKinds();
        test.movesAnswers();
        test.undoneLeaning();
        due.end();
    }

    private static int within(int number, int least, int greatest) {
        return number < least ? least : number > greatest ? greatest : number;
    }

    private void leastAndGreatest() {
        for (int kind = 0; kind < 12; kind++) {
            Witnessworks w = new Witnessworks();
            int entry = w.open(KINDS.charAt(kind), SIZES[kind], GREATEST[kind]);
            int n = w.open('n', 1, 2);
            for (int prime : PRIMES) {
                w.setBound(n, prime);
                for (int plus = -20; plus <= 20; plus++) {
                    String what = KINDS.charAt(kind) + " by " + prime + " and " + plus;
                    int want = within(prime + plus, LEAST[kind], GREATEST[kind]);
                    due.is(what, want, w.lean(entry, n, plus));
                    due.is(what, want, w.boundOf(entry));
                }
            }
        }
    }

    /** Just above, just at and just below the ends: the entry is as if its bound were told. */
    private void asIfToldSo() {
        int[] nears = {-1, 0, 1};
        for (int kind = 0; kind < 12; kind++) {
            for (int end = 0; end < 2; end++) {
                int limit = end == 0 ? LEAST[kind] : GREATEST[kind];
                if (limit == -40 || limit == 9999) {
                    continue;
                }
                for (int near : nears) {
                    leansLikeTold(kind, limit + near);
                }
            }
        }
    }

    private void leansLikeTold(int kind, int wanted) {
        int prime = 2;
        while (wanted - prime > 20 || wanted - prime < -20 || prime == 4) {
            prime = prime == 2 ? 19 : prime == 19 ? 41 : 61;
        }
        Witnessworks leaning = new Witnessworks();
        leaning.open(KINDS.charAt(kind), SIZES[kind], LEAST[kind]);
        leaning.open('n', 1, prime);
        leaning.lean(0, 1, wanted - prime);
        Witnessworks told = new Witnessworks();
        told.open(KINDS.charAt(kind), SIZES[kind], within(wanted, LEAST[kind], GREATEST[kind]));
        told.open('n', 1, prime);
        String what = KINDS.charAt(kind) + " at " + wanted;
        due.is(what, told.checksum(), leaning.checksum());
        due.is(what + " row", Due.row(told, 0), Due.row(leaning, 0));
        due.is(what + " sound", true, leaning.isSound());
    }

    private void onNought() {
        Witnessworks w = new Witnessworks();
        int d = w.open('d', 1, 0);
        due.is("a witness tells 0", 0, w.number(d));
        int other = w.open('d', 1, 40);
        due.is("the least sum there can be", -20, w.lean(other, d, -20));
        due.is("nought and 20", 20, w.lean(other, d, 20));
        due.is("nought and nought", 0, w.lean(other, d, 0));
        int n = w.open('n', 1, 9999);
        due.is("-20 is below 2", 2, w.lean(n, d, -20));
        due.is("1 is below 2", 2, w.lean(n, d, 1));
        due.is("2", 2, w.lean(n, d, 2));
        due.is("3", 3, w.lean(n, d, 3));
        due.is("20", 20, w.lean(n, d, 20));
        int f = w.open('f', 2, 60);
        due.is("-1 is below 0", 0, w.lean(f, d, -1));
        due.is("0", 0, w.lean(f, d, 0));
        due.is("1", 1, w.lean(f, d, 1));
    }

    private void plus() {
        Witnessworks w = new Witnessworks();
        w.open('n', 1, 9973);
        w.open('n', 1, 9999);
        due.is("the greatest sum there can be", 9993, w.lean(1, 0, 20));
        due.is("the least plus", 9953, w.lean(1, 0, -20));
        due.fails("21", BAD, () -> w.lean(1, 0, 21));
        due.fails("-21", BAD, () -> w.lean(1, 0, -21));
        due.fails("the greatest int", BAD, () -> w.lean(1, 0, Integer.MAX_VALUE));
        due.fails("the least int", BAD, () -> w.lean(1, 0, Integer.MIN_VALUE));
        due.is("it leans as ahead of these", 9953, w.boundOf(1));
        due.fails("no entry, and no such plus", IndexOutOfBoundsException.class, () -> w.lean(2, 0, 21));
        due.fails("no other entry, and no such plus", IndexOutOfBoundsException.class, () -> w.lean(0, 2, 21));
        due.fails("itself, and no such plus", BAD, () -> w.lean(0, 0, 21));
        due.fails("round, and no such plus", BAD, () -> w.lean(0, 1, -21));
        due.fails("itself", NOT_SO, () -> w.lean(0, 0, 20));
        due.fails("round", NOT_SO, () -> w.lean(0, 1, -20));
    }

    private static Witnessworks chain() {
        Witnessworks w = new Witnessworks();
        for (int i = 0; i < 12; i++) {
            w.open('n', 1, 97 - i);
        }
        for (int i = 0; i < 11; i++) {
            w.lean(i, i + 1, i);
        }
        return w;
    }

    private static Object leaned(Witnessworks w, int entry, int other) {
        try {
            w.lean(entry, other, 0);
        } catch (UnsupportedOperationException e) {
            return "refused";
        }
        w.undo();
        return "leans";
    }

    private void notRound() {
        Witnessworks w = chain();
        for (int entry = 0; entry < 12; entry++) {
            for (int other = 0; other < 12; other++) {
                due.is(entry + " on " + other, other > entry ? "leans" : "refused", leaned(w, entry, other));
            }
        }
        w.stand(5);
        for (int other = 0; other < 12; other++) {
            due.is("11 on " + other, other <= 5 ? "leans" : "refused", leaned(w, 11, other));
            due.is("5 on " + other, other > 5 ? "leans" : "refused", leaned(w, 5, other));
            due.is("8 on " + other, other <= 5 || other > 8 ? "leans" : "refused", leaned(w, 8, other));
        }
        w.lean(11, 0, 0);
        for (int other = 0; other < 12; other++) {
            due.is("5 on " + other + " then", "refused", leaned(w, 5, other));
            due.is("11 on " + other + " then", other <= 5 ? "leans" : "refused", leaned(w, 11, other));
        }
        w.setBound(3, 50);
        due.is("cut by a told bound", "leans", leaned(w, 5, 0));
        due.is("cut by a told bound", "leans", leaned(w, 5, 11));
        due.is("not cut there", "refused", leaned(w, 5, 4));
    }

    private static int leastDivisor(int number) {
        for (int i = 2; i < number; i++) {
            if (number % i == 0) {
                return i;
            }
        }
        return number;
    }

    private void twelveInARow() {
        Witnessworks w = chain();
        int[] ends = {2, 9973, 9999, 30, 77, 9409};
        for (int end : ends) {
            w.setBound(11, end);
            int bound = end;
            for (int i = 11; i >= 0; i--) {
                due.is("the bound of " + i, bound, w.boundOf(i));
                due.is("the number of " + i, leastDivisor(bound), w.number(i));
                bound = leastDivisor(bound) + i - 1;
            }
            due.is("sound", true, w.isSound());
        }
        w.setBound(11, 13);
        due.is("the first one alone asked", leastDivisor(w.boundOf(1)), w.boundOf(0));
    }

    private void standing() {
        Witnessworks w = new Witnessworks();
        w.open('m', 3, 4);
        w.open('n', 1, 5);
        due.fails("it leans on nothing", NOT_SO, () -> w.stand(0));
        w.lean(0, 1, -2);
        due.is("stands", 3, w.stand(0));
        due.fails("it stands already", NOT_SO, () -> w.stand(0));
        due.fails("it leans on nothing", NONE, () -> w.leansOn(0));
        w.setBound(1, 7);
        due.is("it stays so", 3, w.boundOf(0));
        w.lean(0, 1, 20);
        due.is("as it was at that time: the greatest one", 9, w.stand(0));
        w.lean(0, 1, -20);
        due.is("as it was at that time: the least one", 0, w.stand(0));
        due.is("undone", 's', w.undo());
        due.is("it leans again", 1, w.leansOn(0));
        w.setBound(1, 29);
        due.is("with the number there is now", 9, w.boundOf(0));
        w.setBound(1, 23);
        due.is("with the number there is now", 3, w.boundOf(0));
    }

    private void endsByAnother() {
        Witnessworks w = new Witnessworks();
        w.open('m', 3, 4);
        w.open('n', 1, 5);
        w.open('n', 1, 3);
        w.lean(0, 1, 0);
        due.is("on something else", 4, w.lean(0, 2, 1));
        due.is("on that", 2, w.leansOn(0));
        w.setBound(1, 2);
        due.is("no more on the first one", 4, w.boundOf(0));
        due.is("the first one can lean on it", 3, w.lean(1, 0, 0));
        due.is("told the very bound", 4, w.setBound(0, 4));
        due.fails("it leans on nothing", NONE, () -> w.leansOn(0));
        w.setBound(2, 7);
        due.is("no more on the other one", 4, w.boundOf(0));
        due.is("undone", 'b', w.undo());
        due.is("undone", 'b', w.undo());
        due.is("on it again", 2, w.leansOn(0));
        due.is("on the same one by another plus", 9, w.lean(0, 2, 20));
        due.is("on the same one by another plus", 0, w.lean(0, 2, -3));
    }

    private void refusedOnesEndNothing() {
        Refused leaning = new Refused(due, w -> {
            w.open('m', 3, 4);
            w.open('n', 1, 5);
            w.open('n', 1, 3);
            w.lean(0, 1, 0);
            w.lean(1, 2, 2);
        });
        leaning.by("no such bound", BAD, w -> w.setBound(0, 10));
        leaning.by("no such bound", BAD, w -> w.setBound(0, -1));
        leaning.by("no such plus", BAD, w -> w.lean(0, 2, 21));
        leaning.by("no such entry", IndexOutOfBoundsException.class, w -> w.lean(0, 3, 0));
        leaning.by("itself", NOT_SO, w -> w.lean(0, 0, 0));
        leaning.by("round", NOT_SO, w -> w.lean(1, 0, 0));
        leaning.by("round by others", NOT_SO, w -> w.lean(2, 0, 0));
        leaning.by("it stands", NOT_SO, w -> w.stand(2));
    }

    private void clampedAndBack() {
        Witnessworks w = new Witnessworks();
        w.open('a', 8, 0);
        w.open('n', 1, 2);
        w.lean(0, 1, -5);
        int[] bounds = {5, 11, 3, 13, 7, 9, 9973, 2};
        for (int bound : bounds) {
            w.setBound(1, bound);
            due.is("kept as a sum, not as it was cut", within(leastDivisor(bound) - 5, 0, 7), w.boundOf(0));
        }
    }

    private void numbersOfAllKinds() {
        for (int kind = 0; kind < 12; kind++) {
            Witnessworks w = new Witnessworks();
            int other = w.open(KINDS.charAt(kind), SIZES[kind], GREATEST[kind]);
            int entry = w.open('n', 1, 2);
            String what = "on " + KINDS.charAt(kind);
            due.is(what, Math.max(2, w.number(other) + 5), w.lean(entry, other, 5));
            w.setBound(other, LEAST[kind]);
            due.is(what, Math.max(2, w.number(other) + 5), w.boundOf(entry));
            due.is(what + " both ways", false, w.boundOf(entry) < 2);
        }
    }

    private void movesAnswers() {
        Witnessworks w = new Witnessworks();
        w.open('m', 4, 0);
        w.open('f', 3, 0);
        w.put(1, 0, 2, 3, 0, 0);
        due.is("three flow, less three", 0, w.lean(0, 1, -3));
        due.is("four alone", 'n', w.answer(0));
        w.settle();
        w.put(1, 0, 2, 1, 0, 0);
        due.is("one more", 1, w.boundOf(0));
        due.is("not settled any more for the other one", false, w.isSettled(1));
        due.is("still the same row", true, w.isSettled(0));
        w.change(1, 0, 0, 2, 6, 0, 0);
        due.is("four", 4, w.boundOf(0));
        due.is("four alone", 'y', w.answer(0));
        due.is("another answer", false, w.isSettled(0));
        due.is("both", 2, w.settle());
        w.drop(1, 1);
        due.is("three", 3, w.boundOf(0));
        due.is("four alone", 'n', w.answer(0));
        w.undo();
        due.is("as ahead of it", true, w.isSettled(0));
    }

    private void undoneLeaning() {
        Witnessworks w = new Witnessworks();
        w.open('m', 3, 4);
        w.open('n', 1, 5);
        w.lean(0, 1, 1);
        w.setBound(0, 2);
        due.is("told", 'b', w.undo());
        due.is("leans again", 6, w.boundOf(0));
        due.is("leaned", 'l', w.undo());
        due.is("as it was told first", 4, w.boundOf(0));
        due.fails("on nothing", NONE, () -> w.leansOn(0));
        due.is("free the other way", 3, w.lean(1, 0, 0));
        due.is("opened", 'l', w.undo());
        due.is("opened", 'o', w.undo());
        due.fails("no such entry to lean on", IndexOutOfBoundsException.class, () -> w.lean(0, 1, 0));
    }
}
