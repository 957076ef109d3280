import java.util.NoSuchElementException;

/** The boundary cases of claims: the typed row, empty and full, the 16 that stand, the same ones, and points. */
public final class ClaimEdgesTest {
    private static final Class<?> NO_ENTRY = IndexOutOfBoundsException.class;
    private static final Class<?> FULL = IllegalStateException.class;
    private static final Class<?> NONE = NoSuchElementException.class;
    private static final int MOST = Integer.MAX_VALUE;
    private static final int LEAST = Integer.MIN_VALUE;
    private final Due due;

    private ClaimEdgesTest(Due due) {
        this.due = due;
    }

    public static void main(String[] args) {
        Due due = new Due();
        ClaimEdgesTest test = new ClaimEdgesTest(due);
        test.sixPersons();
        test.typedOneByOne();
        test.typedByMany();
        test.altered();
        test.wiped();
        test.borrowed();
        test.emptyRow();
        test.fullRow();
        test.asItIsNow();
        test.checkedOnly();
        test.sixteen();
        test.placesThatFallFree();
        test.theSameOne();
        test.inBothSenses();
        test.rowIsKept();
        test.order();
        test.notShorter();
        test.shorterPairings();
        test.shorterRoots();
        test.shorterDrawings();
        test.pointsStay();
        due.end();
    }

    private static void type(Witnessworks w, int... row) {
        w.wipe();
        for (int number : row) {
            w.type(number);
        }
    }

    private static int claim(Witnessworks w, int person, int entry, boolean isWitness, int... row) {
        type(w, row);
        return w.claim(person, entry, isWitness);
    }

    private void sixPersons() {
        Witnessworks w = new Witnessworks();
        w.open('d', 1, 0);
        for (int i = 0; i < 6; i++) {
            int none = i;
            due.fails("not added yet", NO_ENTRY, () -> w.points(none));
            due.fails("not added yet", NO_ENTRY, () -> w.claim(none, 0, true));
            due.is("person", i, w.person());
            due.is("no points yet", 0, w.points(i));
        }
        due.fails("six", FULL, () -> w.person());
        due.fails("six still", FULL, () -> w.person());
        for (int i = 0; i < 6; i++) {
            for (int j = 0; j < i; j++) {
                due.is("accepted", 0, claim(w, i, 0, true, 10 * i + j));
            }
        }
        for (int i = 0; i < 6; i++) {
            due.is("points of each", i, w.points(i));
        }
        due.is("the last person", 5, w.standingOf(14, 'p'));
        due.fails("no person", NO_ENTRY, () -> w.claim(6, 0, true));
        due.fails("no person", NO_ENTRY, () -> w.claim(MOST, 0, true));
        due.fails("no person", NO_ENTRY, () -> w.claim(LEAST, 0, true));
        due.fails("no person", NO_ENTRY, () -> w.points(MOST));
        due.fails("no person", NO_ENTRY, () -> w.points(LEAST));
    }

    private void typedOneByOne() {
        Witnessworks w = new Witnessworks();
        due.is("empty at first", "", Due.typed(w));
        for (int i = 0; i < 64; i++) {
            int number = i % 3 == 0 ? LEAST + i : i % 3 == 1 ? MOST - i : i;
            due.is("many", i + 1, w.type(number));
            due.is("at its place", number, w.alter(i, number));
        }
        for (int i = 0; i < 3; i++) {
            due.fails("full", FULL, () -> w.type(7));
        }
        for (int i = 0; i < 64; i++) {
            int number = i % 3 == 0 ? LEAST + i : i % 3 == 1 ? MOST - i : i;
            due.is("still at its place", number, w.alter(i, 0));
        }
    }

    private void typedByMany() {
        int[] numbers = {LEAST, 2, MOST, -4, 5, 0, 7, -8};
        for (int many = 1; many <= 8; many++) {
            Witnessworks w = new Witnessworks();
            StringBuilder all = new StringBuilder();
            int typed = 0;
            while (typed + many <= 64) {
                typed += many;
                due.is("many", typed, more(w, many, numbers));
                for (int i = 0; i < many; i++) {
                    all.append(numbers[i]).append(' ');
                }
            }
            due.is("just these", all.toString(), Due.typed(w));
            int again = many;
            due.fails("more than 64", FULL, () -> more(w, again, numbers));
            due.is("none of them is typed", all.toString(), Due.typed(w));
            for (int i = typed; i < 64; i++) {
                due.is("but one is", i + 1, more(w, 1, numbers));
            }
            due.fails("full", FULL, () -> more(w, 1, numbers));
        }
    }

    private static int more(Witnessworks w, int many, int[] n) {
        return w.typeMore(many, n[0], n[1], n[2], n[3], n[4], n[5], n[6], n[7]);
    }

    private void altered() {
        Witnessworks w = new Witnessworks();
        due.fails("empty", NONE, () -> w.alter(0, 1));
        w.type(5);
        due.is("the first one", 5, w.alter(0, LEAST));
        due.is("the first one", LEAST, w.alter(0, MOST));
        due.is("the same again", MOST, w.alter(0, MOST));
        due.fails("behind it", NONE, () -> w.alter(1, 1));
        due.fails("ahead of it", NONE, () -> w.alter(-1, 1));
        due.fails("far", NONE, () -> w.alter(MOST, 1));
        due.fails("far", NONE, () -> w.alter(LEAST, 1));
        due.is("no more numbers by it", 2, w.type(6));
        due.is("the second one", 6, w.alter(1, 7));
        w.wipe();
        due.fails("empty again", NONE, () -> w.alter(0, 1));
        due.is("nothing is left", 1, w.type(3));
        due.fails("nothing is left", NONE, () -> w.alter(1, 1));
        due.is("the new one", 3, w.alter(0, 3));
    }

    private void wiped() {
        Witnessworks w = new Witnessworks();
        due.is("empty", 0, w.wipe());
        w.type(1);
        due.is("one", 1, w.wipe());
        due.is("empty", 0, w.wipe());
        for (int i = 0; i < 64; i++) {
            w.type(i);
        }
        due.is("all", 64, w.wipe());
        due.is("empty", 0, w.wipe());
        due.is("empty", "", Due.typed(w));
        due.is("eight at once", 8, w.typeMore(8, 1, 2, 3, 4, 5, 6, 7, 8));
    }

    private void borrowed() {
        Witnessworks w = new Witnessworks();
        w.open('m', 3, 0);
        w.put(0, 0, 1, 0, 0, 0);
        w.open('g', 2, 0);
        w.open('w', 1, 6);
        w.put(2, 1, 127, 0, 0, 0);
        w.put(2, 2, 1, 0, 0, 0);
        w.put(2, 3, 1, 0, 0, 0);
        type(w, 7, 8, 9);
        due.is("an empty row", 0, w.borrow(0));
        due.is("nothing is typed then", "", Due.typed(w));
        type(w, 7, 8, 9);
        due.is("an empty row", 0, w.borrow(1));
        due.is("nothing is typed then", "", Due.typed(w));
        w.type(4);
        due.is("a short one", 7, w.borrow(2));
        due.is("of one letter more each", "1 3 7 15 31 63 127 ", Due.typed(w));
        for (int i = 7; i < 64; i++) {
            w.type(i);
        }
        due.is("instead of a full one", 0, w.borrow(0));
        w.change(2, 0, 1, 255, 0, 0, 0);
        type(w, 7, 8, 9);
        due.is("all words of six letters", 127, w.length(2));
        due.fails("too long", UnsupportedOperationException.class, () -> w.borrow(2));
        due.is("as it was", "7 8 9 ", Due.typed(w));
        w.change(2, 2, 1, 1, 0, 0, 0);
        w.setBound(2, 7);
        due.is("words of noughts", 8, w.length(2));
        due.is("short enough", 8, w.borrow(2));
    }

    private void emptyRow() {
        Witnessworks w = new Witnessworks();
        String kinds = "mfplsdnrgwax";
        for (int i = 0; i < 12; i++) {
            char kind = kinds.charAt(i);
            w.open(kind, kind == 'f' || kind == 'g' ? 2 : 1, kind == 'n' ? 2 : 0);
        }
        w.person();
        int[] witness = {1, 0, 0, 1, 1, 1, 1, 0, 0, 1, 1, 1};
        int[] refutation = {0, 1, 1, 1, 2, 1, 1, 3, 1, 2, 2, 1};
        for (int i = 0; i < 12; i++) {
            due.is("witness of " + kinds.charAt(i), witness[i], w.check(i, true));
            due.is("refutation of " + kinds.charAt(i), refutation[i], w.check(i, false));
            due.is("claimed of " + kinds.charAt(i), refutation[i], w.claim(0, i, false));
            due.is("claimed of " + kinds.charAt(i), witness[i], w.claim(0, i, true));
        }
        due.is("five stand", 5, w.standing());
        due.is("a row without numbers", 0, w.standingOf(0, 'l'));
        due.is("as long as the kept ones", 5, w.points(0));
        due.is("claimed again", 0, w.claim(0, 1, true));
        due.is("it stood already", 5, w.points(0));
    }

    private void fullRow() {
        Witnessworks w = new Witnessworks();
        w.person();
        w.open('w', 1, 6);
        w.put(0, 64, 1, 0, 0, 0);
        w.put(0, 2, 3, 0, 0, 0);
        due.is("64", 64, w.borrow(0));
        due.is("accepted", 0, w.claim(0, 0, false));
        due.is("all its numbers", 64, w.standingOf(0, 'l'));
        int last = w.alter(63, MOST);
        due.is("the last number counts", 1, w.claim(0, 0, false));
        w.alter(63, last);
        int first = w.alter(0, LEAST);
        due.is("the first number counts", 1, w.claim(0, 0, false));
        w.alter(0, first);
        due.is("as it was", 0, w.claim(0, 0, false));
        due.is("one stands", 1, w.standing());
        due.is("a point", 1, w.points(0));
        due.is("stays", 0, w.settle());
        String kinds = "mfplsdnrgwax";
        for (int i = 0; i < 12; i++) {
            Witnessworks other = new Witnessworks();
            char kind = kinds.charAt(i);
            other.open(kind, kind == 'f' || kind == 'g' ? 2 : 1, kind == 'n' ? 2 : 0);
            other.typeMore(2, 2, 2, 0, 0, 0, 0, 0, 0);
            for (int j = 2; j < 64; j++) {
                other.type(j % 2 == 0 ? MOST : LEAST);
            }
            due.is("64 of any ints of " + kind, true, other.check(0, true) > 0);
            due.is("64 of any ints of " + kind, true, other.check(0, false) > 0);
        }
    }

    private void asItIsNow() {
        Witnessworks w = new Witnessworks();
        w.person();
        w.open('m', 2, 0);
        w.open('n', 1, 2);
        w.lean(0, 1, -2);
        due.is("none alone", 4, claim(w, 0, 0, true, 0, 1));
        w.setBound(1, 3);
        due.is("one alone", 4, w.claim(0, 0, true));
        w.setBound(1, 5);
        due.is("three alone", 0, w.claim(0, 0, true));
        due.is("stands", 1, w.standing());
        w.setBound(1, 2);
        w.setBound(1, 5);
        due.is("stood meanwhile", 0, w.settle());
        w.setBound(1, 2);
        due.is("falls as the other one is changed", 3, w.settle());
        due.is("answer", 'n', w.erratumSign(0));
        due.is("letter", 'c', w.erratumSign(1));
        due.is("condition", 4, w.erratum(1, 'n'));
        due.is("the other one has another row", 'r', w.erratumSign(2));
        due.is("fell", 0, w.standing());
    }

    private void checkedOnly() {
        Witnessworks w = new Witnessworks();
        w.open('n', 1, 2);
        type(w, 2);
        due.is("accepted without a person", 0, w.check(0, true));
        due.is("does not stand", 0, w.standing());
        w.person();
        due.is("accepted", 0, w.check(0, true));
        due.is("no point", 0, w.points(0));
        due.is("is typed still", "2 ", Due.typed(w));
        due.is("claimed", 0, w.claim(0, 0, true));
        due.is("is typed still", "2 ", Due.typed(w));
        due.is("not so", 1, w.claim(0, 0, false));
        due.is("one stands", 1, w.standing());
        due.fails("no other one", NONE, () -> w.standingOf(1, 'e'));
    }

    /** Rows of one number for an equation without items are all accepted. */
    private static Witnessworks many(int claims) {
        Witnessworks w = new Witnessworks();
        w.open('d', 1, 0);
        w.open('d', 1, 0);
        w.person();
        w.person();
        for (int i = 0; i < claims; i++) {
            claim(w, 0, i % 2, true, i / 2);
        }
        return w;
    }

    private void sixteen() {
        Witnessworks fifteen = many(15);
        due.is("fifteen", 15, fifteen.standing());
        due.is("the last one that can stand", 0, claim(fifteen, 1, 1, true, 7));
        due.is("sixteen", 16, fifteen.standing());
        due.is("a point", 1, fifteen.points(1));
        due.fails("one more", FULL, () -> claim(fifteen, 1, 1, true, 8));
        Witnessworks w = many(16);
        due.is("sixteen", 16, w.standing());
        due.is("the last one", 1, w.standingOf(15, 'e'));
        due.fails("no seventeenth", NONE, () -> w.standingOf(16, 'e'));
        due.fails("one more", FULL, () -> claim(w, 1, 0, true, MOST));
        due.is("is typed still", MOST + " ", Due.typed(w));
        due.is("not accepted", 1, claim(w, 1, 0, true));
        due.is("not accepted", 1, claim(w, 1, 0, true, 1, 2));
        due.is("not accepted as a refutation", 3, claim(w, 1, 0, false, 3));
        due.is("the same one", 0, claim(w, 1, 0, true, 0));
        due.is("the same one", 0, claim(w, 1, 1, true, 7));
        due.fails("no person first", NO_ENTRY, () -> claim(w, 2, 0, true, 99));
        due.fails("no entry first", NO_ENTRY, () -> claim(w, 1, 2, true, 99));
        due.is("sixteen still", 16, w.standing());
        due.is("no points", 0, w.points(1));
        due.is("points", 16, w.points(0));
        due.is("none falls", 0, w.settle());
        due.is("sixteen still", 16, w.standing());
    }

    private void placesThatFallFree() {
        Witnessworks w = many(16);
        w.put(0, 0, 0, 0, 0, 0);
        w.setBound(0, 1);
        due.fails("they stand until a settling", FULL, () -> claim(w, 1, 1, true, 50));
        due.is("eight fall", 8, w.settle());
        due.is("eight stand", 8, w.standing());
        for (int i = 0; i < 8; i++) {
            due.is("they moved up", 1, w.standingOf(i, 'e'));
            due.is("eight more", 0, claim(w, 1, 1, true, 50 + i));
        }
        due.fails("full again", FULL, () -> claim(w, 1, 1, true, 60));
        due.is("points", 8, w.points(1));
        due.is("bound", 'b', w.undo());
        due.is("item", 'p', w.undo());
        due.fails("full still", FULL, () -> claim(w, 1, 0, true, 0));
        due.is("opened", 'o', w.undo());
        due.is("all of it are gone", 0, w.standing());
        due.is("claimed again", 0, claim(w, 1, 0, true, 0));
        due.is("a point", 9, w.points(1));
    }

    private void theSameOne() {
        Witnessworks w = new Witnessworks();
        w.person();
        w.person();
        w.open('d', 2, 0);
        w.open('d', 2, 0);
        w.open('d', 1, 0);
        due.is("a row", 0, claim(w, 0, 0, true, 3, 4));
        due.is("the same row", 0, claim(w, 1, 0, true, 3, 4));
        due.is("the same one by the same person", 0, claim(w, 0, 0, true, 3, 4));
        due.is("one stands", 1, w.standing());
        due.is("it is the first person's", 0, w.standingOf(0, 'p'));
        due.is("the last number is another one", 0, claim(w, 1, 0, true, 3, 5));
        due.is("the first number is another one", 0, claim(w, 1, 0, true, 4, 4));
        due.is("for another entry", 0, claim(w, 1, 1, true, 3, 4));
        due.is("the first number alone, for another entry", 0, claim(w, 1, 2, true, 3));
        due.is("five stand", 5, w.standing());
        due.is("points", 4, w.points(1));
        due.is("points", 1, w.points(0));
        Witnessworks m = new Witnessworks();
        m.person();
        m.open('m', 3, 0);
        due.is("no row", 0, claim(m, 0, 0, false));
        due.is("one stands", 1, m.standing());
        m.put(0, 0, 1, 0, 0, 0);
        m.put(0, 2, 1, 0, 0, 0);
        due.is("longer", 0, claim(m, 0, 0, false, 1));
        due.is("the same again, though the items are others", 0, claim(m, 0, 0, false));
        due.is("two stand", 2, m.standing());
        due.is("the second one was not shorter", 2, m.points(0));
    }

    /** Without an item there are no roots, and the row without numbers can be both. */
    private void inBothSenses() {
        Witnessworks w = new Witnessworks();
        w.person();
        w.open('r', 1, 0);
        due.is("a witness", 0, w.claim(0, 0, true));
        due.is("not a refutation", 3, w.claim(0, 0, false));
        w.setBound(0, 1);
        due.is("not a witness", 3, w.claim(0, 0, true));
        due.is("a refutation", 0, w.claim(0, 0, false));
        due.is("both stand", 2, w.standing());
        due.is("points for both", 2, w.points(0));
        due.is("sense", 1, w.standingOf(0, 'w'));
        due.is("sense", 0, w.standingOf(1, 'w'));
        due.is("sound, as the one is not accepted now", true, w.isSound());
        due.is("the one falls", 1, w.settle());
        due.is("condition", 3, w.erratum(0, 'n'));
        due.is("one stands", 1, w.standing());
        due.is("sense", 0, w.standingOf(0, 'w'));
        w.setBound(0, 0);
        due.is("the other one falls", 2, w.settle());
        due.is("none stands", 0, w.standing());
    }

    private void rowIsKept() {
        Witnessworks w = new Witnessworks();
        w.person();
        w.open('d', 3, 0);
        claim(w, 0, 0, true, 1, 2, 3);
        w.alter(0, 9);
        w.wipe();
        w.put(0, 1, 1, 0, 0, 0);
        w.put(0, 0, 0, 1, 0, 0);
        w.change(0, 0, 1, 1, 0, 0, 3);
        w.setBound(0, 3);
        due.is("its row holds still", 0, w.settle());
        due.is("stands", 1, w.standing());
        w.setBound(0, 2);
        due.is("not any more", 2, w.settle());
        due.is("fell", 0, w.standing());
        due.is("nothing is typed by that", "", Due.typed(w));
    }

    private void order() {
        Witnessworks w = new Witnessworks();
        w.person();
        for (int i = 0; i < 3; i++) {
            w.open('d', 1, 0);
        }
        int[] entries = {2, 0, 1, 0, 2, 1, 1};
        for (int i = 0; i < entries.length; i++) {
            claim(w, 0, entries[i], true, i);
        }
        for (int i = 0; i < entries.length; i++) {
            due.is("as they came", entries[i], w.standingOf(i, 'e'));
            due.is("length", 1, w.standingOf(i, 'l'));
        }
        w.put(1, 1, 0, 0, 0, 0);
        w.setBound(1, 5);
        due.is("two fall", 2, w.settle());
        String left = "";
        for (int i = 0; i < w.standing(); i++) {
            left += w.standingOf(i, 'e');
        }
        due.is("in their order", "20021", left);
    }

    private void notShorter() {
        Witnessworks w = new Witnessworks();
        w.person();
        w.open('s', 2, 2);
        w.put(0, 1, 0, 0, 0, 0);
        w.put(0, -1, 0, 0, 0, 0);
        w.put(0, 1, 2, 0, 0, 0);
        w.put(0, 1, -2, 0, 0, 0);
        due.is("kept", "0 1", Due.row(w, 0));
        due.is("a longer one", 0, claim(w, 0, 0, false, 2, 3, 1));
        due.is("one point", 1, w.points(0));
        due.is("the kept one", 0, claim(w, 0, 0, false, 0, 1));
        due.is("one more", 2, w.points(0));
        w.open('g', 2, 1);
        w.put(1, 1, 0, 0, 0, 0);
        w.put(1, 1, 0, 0, 0, 0);
        due.is("three times", 0, claim(w, 0, 1, true, 1, 1, 1));
        due.is("one more", 3, w.points(0));
        w.open('w', 1, 2);
        w.put(2, 2, 3, 0, 0, 0);
        w.put(2, 2, 3, 0, 0, 0);
        due.is("kept", "2 3", Due.row(w, 2));
        due.is("there, back and there", 0, claim(w, 0, 2, true, 2, 3, 2, 3));
        due.is("one more", 4, w.points(0));
        w.open('w', 1, 2);
        w.put(3, 1, 2, 0, 0, 0);
        due.is("kept", "1", Due.row(w, 3));
        due.is("others that hang on nothing too", 0, claim(w, 0, 3, false, 1, 3, 7));
        due.is("one more", 5, w.points(0));
        w.open('n', 1, 7);
        due.is("another base", 0, claim(w, 0, 4, true, 7, 5, 2, 3, 2, 2));
        due.is("just as long", 6, w.points(0));
    }

    private void shorterPairings() {
        Witnessworks w = new Witnessworks();
        w.person();
        w.open('m', 4, 0);
        w.put(0, 0, 1, 0, 0, 0);
        w.put(0, 0, 2, 0, 0, 0);
        w.put(0, 0, 3, 0, 0, 0);
        due.is("kept", "0", Due.row(w, 0));
        due.is("kept", 0, claim(w, 0, 0, false, 0));
        due.is("as long", 1, w.points(0));
        due.is("without the middle there is no odd part", 2, claim(w, 0, 0, false));
        w.put(0, 1, 2, 0, 0, 0);
        due.is("a pairing now", 'y', w.answer(0));
        w.setBound(0, 1);
        w.open('m', 7, 0);
        w.put(1, 0, 1, 0, 0, 0);
        w.put(1, 1, 2, 0, 0, 0);
        due.is("kept", "1", Due.row(w, 1));
        due.is("none", 0, claim(w, 0, 1, false));
        due.is("one shorter", 4, w.points(0));
        due.is("again", 0, claim(w, 0, 1, false));
        due.is("no more points", 4, w.points(0));
    }

    private void shorterRoots() {
        Witnessworks w = new Witnessworks();
        w.person();
        w.open('r', 1, 1);
        w.put(0, -1, 0, 1, 0, 0);
        due.is("kept: two roots", "1 0 1 1", Due.row(w, 0));
        due.is("one part with both", 0, claim(w, 0, 0, true, 0, 0));
        due.is("shorter by two", 3, w.points(0));
        due.is("one part", 0, claim(w, 0, 0, true, 1, 1));
        due.is("shorter by two", 6, w.points(0));
        due.is("the other one", 0, claim(w, 0, 0, true, 1, 0));
        due.is("shorter by two", 9, w.points(0));
        due.is("both", 0, claim(w, 0, 0, true, 2, 1, 1, 1));
        due.is("as long", 10, w.points(0));
        w.setBound(0, 2);
        due.is("too few now", 3, claim(w, 0, 0, true, 1, 1));
        due.is("three fall", 3, w.settle());
        due.is("points stay", 10, w.points(0));
    }

    /** A way by the node 6 is beside the last item, which so is taken away first. */
    private void shorterDrawings() {
        Witnessworks w = new Witnessworks();
        w.person();
        w.open('p', 7, 11);
        for (int a = 0; a < 3; a++) {
            for (int b = 3; b < 6; b++) {
                if (a + b > 3) {
                    w.put(0, a, b, 0, 0, 0);
                }
            }
        }
        w.put(0, 0, 6, 0, 0, 0);
        w.put(0, 6, 3, 0, 0, 0);
        w.put(0, 0, 3, 0, 0, 0);
        due.is("kept", "3 0 1 2 3 4 5 6 7 8 9", Due.row(w, 0));
        due.is("the edge instead of the way", 0, claim(w, 0, 0, false, 3, 0, 1, 2, 3, 4, 5, 6, 7, 10));
        due.is("shorter", 3, w.points(0));
        w.borrow(0);
        due.is("the kept one", 0, w.claim(0, 0, false));
        due.is("as long", 4, w.points(0));
    }

    private void pointsStay() {
        Witnessworks w = new Witnessworks();
        w.person();
        w.open('n', 1, 7);
        w.setBound(0, 9);
        due.is("claimed", 0, claim(w, 0, 0, false, 3, 3));
        w.undo();
        w.settle();
        due.is("it fell", 0, w.standing());
        due.is("the point stays", 1, w.points(0));
        w.undo();
        due.is("no entry", 0, w.entries());
        due.is("the point stays", 1, w.points(0));
        due.fails("no entry to claim for", NO_ENTRY, () -> w.claim(0, 0, false));
        w.open('n', 1, 9);
        due.is("a new entry", 0, claim(w, 0, 0, false, 3, 3));
        due.is("a new point", 2, w.points(0));
    }
}
