import java.util.NoSuchElementException;

/** The boundary cases of undoing: the 24 that came last, what counts as a change, what is gone and what stays. */
public final class UndoEdgesTest {
    private static final Class<?> NONE = NoSuchElementException.class;
    private final Due due;

    private UndoEdgesTest(Due due) {
        this.due = due;
    }

    public static void main(String[] args) {
        Due due = new Due();
        UndoEdgesTest test = new UndoEdgesTest(due);
        test.none();
        test.justTheLastOnes();
        test.undoneAndChangedAgain();
        test.everyLetter();
        test.refusedOnesDoNotCount();
        test.asItWasCounts();
        test.whatIsNoChange();
        test.droppedInTheMiddle();
        test.fullAgain();
        test.openedOne();
        test.carriedOne();
        test.forgotten();
        test.whatStays();
        test.claimsOfOneThatStays();
        test.settledAndUndone();
        test.aChainOfLeanings();
        test.twelveOpened();
        due.end();
    }

    private void none() {
        Witnessworks w = new Witnessworks();
        due.fails("nothing was changed", NONE, () -> w.undo());
        w.person();
        w.type(3);
        w.settle();
        due.fails("none of these is a change", NONE, () -> w.undo());
        w.open('n', 1, 2);
        due.is("opened", 'o', w.undo());
        due.fails("it is undone", NONE, () -> w.undo());
        due.is("no entries", 0, w.entries());
        due.is("opened again", 0, w.open('m', 1, 0));
        due.is("opened", 'o', w.undo());
        due.fails("it is undone", NONE, () -> w.undo());
    }

    /** How many calls undo something, until one throws. */
    private static int undone(Witnessworks w) {
        for (int i = 0; i < 40; i++) {
            try {
                w.undo();
            } catch (NoSuchElementException e) {
                return i;
            }
        }
        return 40;
    }

    private void justTheLastOnes() {
        for (int many = 1; many <= 75; many++) {
            Witnessworks w = new Witnessworks();
            w.open('n', 1, 101);
            for (int i = 2; i <= many; i++) {
                w.setBound(0, 100 + i);
            }
            due.is("changes " + many, Math.min(many, 24), undone(w));
            due.is("entries ahead of " + many, many > 24 ? 1 : 0, w.entries());
            if (many > 24) {
                due.is("bound ahead of " + many, 100 + many - 24, w.boundOf(0));
            }
        }
    }

    /** Each bound is told once, so it tells how many changes stand. */
    private void undoneAndChangedAgain() {
        int[] firsts = {1, 5, 23, 24, 25, 30, 48, 49, 50, 71};
        int[] backs = {0, 1, 5, 10, 23, 24};
        int[] mores = {0, 1, 5, 10, 13, 14, 15, 23, 24, 25, 49};
        for (int first : firsts) {
            for (int back : backs) {
                for (int more : mores) {
                    changes(first, Math.min(back, Math.min(first, 24)), more);
                }
            }
        }
    }

    private void changes(int first, int back, int more) {
        Witnessworks w = new Witnessworks();
        w.open('n', 1, 2);
        for (int i = 0; i < 24; i++) {
            w.setBound(0, 10);
        }
        for (int i = 1; i <= first; i++) {
            w.setBound(0, 100 + i);
        }
        for (int i = 0; i < back; i++) {
            due.is("undone", 'b', w.undo());
        }
        int kept = first - back;
        due.is("bound", kept == 0 ? 10 : 100 + kept, w.boundOf(0));
        for (int i = 1; i <= more; i++) {
            w.setBound(0, 200 + i);
        }
        int can = Math.min(24, 24 - back + more);
        due.is(first + " less " + back + " and " + more, can, undone(w));
        int left = kept - Math.max(0, can - more);
        int want = can < more ? 200 + more - can : left <= 0 ? 10 : 100 + left;
        due.is("bound behind " + first + " less " + back + " and " + more, want, w.boundOf(0));
    }

    private void everyLetter() {
        Witnessworks w = new Witnessworks();
        String letters = "";
        String[] books = new String[60];
        int many = 0;
        for (int i = 0; i < 3; i++) {
            books[many++] = Due.book(w);
            w.open('m', 4, 0);
            books[many++] = Due.book(w);
            w.put(2 * i, 0, 1, 0, 0, 0);
            books[many++] = Due.book(w);
            w.change(2 * i, 0, 2, 1, 9, 9, 9);
            books[many++] = Due.book(w);
            w.carry(2 * i, 'f');
            books[many++] = Due.book(w);
            w.lean(2 * i, 2 * i + 1, 3);
            books[many++] = Due.book(w);
            w.stand(2 * i);
            books[many++] = Due.book(w);
            w.setBound(2 * i, 1);
            books[many++] = Due.book(w);
            w.drop(2 * i, 0);
            letters = "dbslycpo" + letters;
        }
        for (int i = 0; i < 24; i++) {
            due.is("letter " + i, letters.charAt(i), w.undo());
            due.is("as ahead of " + i, books[--many], Due.book(w));
        }
        due.fails("all are undone", NONE, () -> w.undo());
    }

    private static void refuse(Due.Call call) {
        try {
            call.run();
        } catch (RuntimeException e) {
            return;
        }
        throw new IllegalStateException("it was to be refused");
    }

    private void refusedOnesDoNotCount() {
        Witnessworks w = new Witnessworks();
        w.open('m', 3, 1);
        w.put(0, 0, 1, 0, 0, 0);
        for (int i = 2; i < 24; i++) {
            w.setBound(0, i % 9);
        }
        for (int i = 0; i < 30; i++) {
            refuse(() -> w.open('m', 0, 0));
            refuse(() -> w.put(0, 0, 1, 0, 0, 0));
            refuse(() -> w.put(0, 0, 3, 0, 0, 0));
            refuse(() -> w.change(0, 1, 0, 1, 0, 0, 0));
            refuse(() -> w.drop(0, 1));
            refuse(() -> w.setBound(0, 10));
            refuse(() -> w.lean(0, 0, 0));
            refuse(() -> w.stand(0));
            refuse(() -> w.carry(0, 's'));
            refuse(() -> w.carry(0, 'q'));
        }
        due.is("as if they had not been", 24, undone(w));
        due.is("no entries", 0, w.entries());
    }

    private void asItWasCounts() {
        Witnessworks w = new Witnessworks();
        w.open('m', 3, 1);
        w.put(0, 0, 1, 0, 0, 0);
        w.open('n', 1, 3);
        due.is("no other number", 0, w.change(0, 0, 0, 1, 0, 0, 0));
        due.is("the same bound", 1, w.setBound(0, 1));
        due.is("leans", 3, w.lean(0, 1, 0));
        due.is("the same again", 3, w.lean(0, 1, 0));
        due.is("stands", 3, w.stand(0));
        due.is("stood", 's', w.undo());
        due.is("leaned", 'l', w.undo());
        due.is("still", 1, w.leansOn(0));
        due.is("leaned", 'l', w.undo());
        due.fails("not any more", NONE, () -> w.leansOn(0));
        due.is("told", 'b', w.undo());
        due.is("changed", 'c', w.undo());
        due.is("opened", 'o', w.undo());
        due.is("put", 'p', w.undo());
        for (int i = 0; i < 24; i++) {
            w.setBound(0, 1);
        }
        for (int i = 0; i < 24; i++) {
            due.is("the same bound", 'b', w.undo());
        }
        due.fails("the one that opened it is no more among them", NONE, () -> w.undo());
    }

    private void whatIsNoChange() {
        Witnessworks w = new Witnessworks();
        w.open('m', 2, 1);
        w.put(0, 0, 1, 0, 0, 0);
        w.carry(0, 'f');
        for (int i = 0; i < 10; i++) {
            w.answer(0);
            w.number(0);
            w.boundOf(0);
            w.part(0, 1);
            w.settle();
            w.borrow(1);
            w.bring(1);
            w.check(0, true);
            w.type(1);
            w.typeMore(2, 1, 2, 3, 4, 5, 6, 7, 8);
            w.alter(0, 3);
            w.wipe();
            w.checksum();
            w.isSound();
        }
        w.person();
        w.borrow(0);
        due.is("claimed", 0, w.claim(0, 0, true));
        due.is("carried", 'y', w.undo());
        due.is("put", 'p', w.undo());
        due.is("opened", 'o', w.undo());
        due.fails("none else", NONE, () -> w.undo());
    }

    private static String items(Witnessworks w) {
        StringBuilder text = new StringBuilder();
        for (int item = 0; item < w.items(0); item++) {
            text.append(w.item(0, item, 2)).append(' ').append(w.item(0, item, 4)).append("; ");
        }
        return text.toString();
    }

    private void droppedInTheMiddle() {
        for (int item = 0; item < 10; item++) {
            Witnessworks w = new Witnessworks();
            w.open('f', 2, 0);
            for (int i = 0; i < 10; i++) {
                w.put(0, 0, 1, i % 7, 0, 50 + i);
            }
            String all = items(w);
            w.drop(0, item);
            w.drop(0, 8);
            w.put(0, 0, 1, 6, 0, 99);
            w.change(0, 0, 1, 0, 0, 0, 0);
            due.is("changed", 'c', w.undo());
            due.is("put", 'p', w.undo());
            due.is("dropped", 'd', w.undo());
            due.is("nine", 9, w.items(0));
            due.is("dropped", 'd', w.undo());
            due.is("at its place again", all, items(w));
            due.is("put", 'p', w.undo());
            due.is("nine of them", all.substring(0, all.length() - 6), items(w));
        }
    }

    private void fullAgain() {
        Witnessworks w = new Witnessworks();
        w.open('a', 1, 0);
        w.put(0, 0, 0, 1, 0, 0);
        w.drop(0, 0);
        due.is("dropped", 'd', w.undo());
        due.fails("full again", IllegalStateException.class, () -> w.put(0, 0, 0, 0, 0, 0));
        due.is("put", 'p', w.undo());
        due.is("not full", 1, w.put(0, 0, 0, 0, 0, 0));
        Witnessworks m = new Witnessworks();
        m.open('m', 3, 0);
        m.put(0, 0, 1, 0, 0, 0);
        m.change(0, 0, 0, 2, 0, 0, 0);
        due.is("changed", 'c', m.undo());
        due.fails("between the same two again", UnsupportedOperationException.class, () -> m.put(0, 1, 0, 0, 0, 0));
        due.is("not between these two", 2, m.put(0, 2, 0, 0, 0, 0));
    }

    private static int claim(Witnessworks w, int person, int entry, boolean isWitness, int... row) {
        w.wipe();
        for (int number : row) {
            w.type(number);
        }
        return w.claim(person, entry, isWitness);
    }

    private static String standing(Witnessworks w) {
        StringBuilder text = new StringBuilder();
        for (int i = 0; i < w.standing(); i++) {
            text.append(w.standingOf(i, 'p')).append(w.standingOf(i, 'e'));
            text.append(w.standingOf(i, 'w')).append(w.standingOf(i, 'l')).append(' ');
        }
        return text.toString();
    }

    private void openedOne() {
        Witnessworks w = new Witnessworks();
        w.person();
        w.person();
        w.open('d', 1, 0);
        w.open('d', 2, 0);
        w.open('d', 3, 0);
        claim(w, 0, 2, true, 1, 1, 1);
        claim(w, 1, 1, true, 1, 1);
        claim(w, 0, 0, true, 1);
        claim(w, 1, 2, true, 2, 2, 2);
        claim(w, 0, 1, true, 2, 2);
        claim(w, 1, 2, true, 3, 3, 3);
        due.is("six", "0213 1112 0011 1213 0112 1213 ", standing(w));
        due.is("opened", 'o', w.undo());
        due.is("those of the others, in their order", "1112 0011 0112 ", standing(w));
        due.is("no erratum", 0, w.errata());
        due.is("points stay", 3, w.points(0));
        due.is("points stay", 3, w.points(1));
        due.is("the typed row stays", "3 3 3 ", Due.typed(w));
        w.open('d', 3, 0);
        due.is("they do not stand for the new one", "1112 0011 0112 ", standing(w));
        due.is("so it can be claimed anew", 0, w.claim(1, 2, true));
        due.is("a point", 4, w.points(1));
        due.is("behind the others", "1112 0011 0112 1213 ", standing(w));
        due.is("opened", 'o', w.undo());
        due.is("opened", 'o', w.undo());
        due.is("one stands", "0011 ", standing(w));
        due.is("opened", 'o', w.undo());
        due.is("none stands", "", standing(w));
        due.is("settled", 0, w.settle());
    }

    private void carriedOne() {
        Witnessworks w = new Witnessworks();
        w.person();
        w.open('m', 2, 0);
        w.put(0, 0, 1, 0, 0, 0);
        w.carry(0, 'f');
        w.carry(0, 's');
        w.borrow(2);
        w.claim(0, 2, true);
        w.borrow(1);
        w.claim(0, 1, true);
        w.borrow(0);
        w.claim(0, 0, true);
        w.settle();
        due.is("three", "0211 0113 0012 ", standing(w));
        due.is("carried", 'y', w.undo());
        due.is("two", "0113 0012 ", standing(w));
        due.is("it is gone", 2, w.entries());
        due.fails("it is gone", IndexOutOfBoundsException.class, () -> w.cameFrom(2));
        due.is("carried", 'y', w.undo());
        due.is("one", "0012 ", standing(w));
        due.is("settled", true, w.isSettled(0));
        w.open('f', 4, 1);
        due.fails("another one, which came from none", NONE, () -> w.cameFrom(1));
        due.is("opened", 'o', w.undo());
        w.carry(0, 's');
        due.is("came", 0, w.cameFrom(1));
        due.is("not there at the last settling", false, w.isSettled(1));
        due.is("no erratum", 0, w.errata());
    }

    private void forgotten() {
        Witnessworks w = new Witnessworks();
        w.open('n', 1, 7);
        w.open('n', 1, 7);
        w.settle();
        due.is("settled", true, w.isSettled(1));
        due.is("opened", 'o', w.undo());
        due.is("opened", 1, w.open('n', 1, 7));
        due.is("the very same, but not there then", false, w.isSettled(1));
        due.is("opened", 'o', w.undo());
        w.open('n', 1, 8);
        due.is("nothing is compared", 0, w.settle());
        due.is("settled", true, w.isSettled(1));
        due.is("opened", 'o', w.undo());
        due.is("the other one is settled still", true, w.isSettled(0));
        w.open('n', 1, 7);
        due.is("nothing is compared", 0, w.settle());
        w.setBound(1, 8);
        due.is("now it is", 1, w.settle());
        due.is("told", 'b', w.undo());
        due.is("not as at the last settling", false, w.isSettled(1));
        due.is("opened", 'o', w.undo());
        due.is("opened", 'o', w.undo());
        due.is("an empty book", 0, w.settle());
        due.is("errata stay", 1, w.errata());
        due.is("of the entry that is gone", 1, w.erratum(0, 'e'));
    }

    private void whatStays() {
        Witnessworks w = new Witnessworks();
        w.open('n', 1, 7);
        w.settle();
        w.setBound(0, 8);
        w.person();
        w.person();
        w.borrow(0);
        w.claim(1, 0, false);
        w.settle();
        w.typeMore(3, -1, -2, -3, 0, 0, 0, 0, 0);
        due.is("told", 'b', w.undo());
        due.is("opened", 'o', w.undo());
        due.is("the typed row", "2 4 -1 -2 -3 ", Due.typed(w));
        due.is("points", 1, w.points(1));
        due.is("points", 0, w.points(0));
        due.is("persons", 2, w.person());
        due.is("errata", 1, w.errata());
        due.is("sign", 'n', w.erratumSign(0));
        due.is("settling", 2, w.erratum(0, 's'));
        w.open('n', 1, 7);
        due.is("the third settling", 0, w.settle());
        w.setBound(0, 9);
        due.is("the fourth one", 1, w.settle());
        due.is("settling", 4, w.erratum(1, 's'));
    }

    private void claimsOfOneThatStays() {
        Witnessworks w = new Witnessworks();
        w.person();
        w.open('n', 1, 7);
        w.setBound(0, 8);
        w.borrow(0);
        w.claim(0, 0, false);
        due.is("told", 'b', w.undo());
        due.is("it stands, though it would not be accepted", "0002 ", standing(w));
        due.is("not sound would be one of the other sort that is accepted", true, w.isSound());
        due.is("it falls by settling", 1, w.settle());
        due.is("condition", 2, w.erratum(0, 'n'));
        due.is("letter", 'c', w.erratumSign(0));
        due.is("none stands", "", standing(w));
        w.setBound(0, 8);
        due.is("claimed again", 0, w.claim(0, 0, false));
        due.is("points", 2, w.points(0));
        w.settle();
        w.setBound(0, 6);
        due.is("told", 'b', w.undo());
        due.is("it stood meanwhile", 0, w.settle());
        due.is("and stands", "0002 ", standing(w));
    }

    private void settledAndUndone() {
        Witnessworks w = new Witnessworks();
        w.open('n', 1, 7);
        w.settle();
        w.setBound(0, 9);
        due.is("another one", false, w.isSettled(0));
        due.is("told", 'b', w.undo());
        due.is("as it was", true, w.isSettled(0));
        due.is("nothing", 0, w.settle());
        w.setBound(0, 9);
        due.is("another one", 1, w.settle());
        due.is("told", 'b', w.undo());
        due.is("a settling is not undone", false, w.isSettled(0));
        due.is("another one again", 1, w.settle());
        due.is("y", 'y', w.erratumSign(1));
        due.is("the fourth one", 4, w.erratum(1, 's'));
    }

    private void aChainOfLeanings() {
        Witnessworks w = new Witnessworks();
        w.open('m', 5, 0);
        w.open('f', 2, 0);
        w.open('n', 1, 13);
        w.lean(0, 1, 1);
        w.lean(1, 2, -9);
        w.put(1, 0, 1, 5, 0, 0);
        due.is("bounds", "6 4", w.boundOf(0) + " " + w.boundOf(1));
        w.setBound(2, 11);
        w.put(1, 0, 1, 2, 0, 0);
        due.is("bounds", "8 2", w.boundOf(0) + " " + w.boundOf(1));
        due.is("answer", 'y', w.answer(0));
        due.is("put", 'p', w.undo());
        due.is("bounds", "6 2", w.boundOf(0) + " " + w.boundOf(1));
        due.is("told", 'b', w.undo());
        due.is("bounds", "6 4", w.boundOf(0) + " " + w.boundOf(1));
        due.is("put", 'p', w.undo());
        due.is("bounds", "1 4", w.boundOf(0) + " " + w.boundOf(1));
        due.is("answer", "n y", w.answer(0) + " " + (w.boundOf(0) == 1 ? "y" : "n"));
        due.is("leaned", 'l', w.undo());
        due.is("bounds", "1 0", w.boundOf(0) + " " + w.boundOf(1));
        due.is("leaned", 'l', w.undo());
        due.is("bounds", "0 0", w.boundOf(0) + " " + w.boundOf(1));
    }

    private void twelveOpened() {
        Witnessworks w = new Witnessworks();
        for (int i = 0; i < 12; i++) {
            w.open('n', 1, 2 + i);
        }
        due.fails("full", IllegalStateException.class, () -> w.open('n', 1, 2));
        due.is("opened", 'o', w.undo());
        due.is("eleven", 11, w.entries());
        due.is("one more", 11, w.open('m', 1, 0));
        due.is("of that kind", 'm', w.kindOf(11));
        due.fails("full", IllegalStateException.class, () -> w.open('n', 1, 2));
        for (int i = 0; i < 12; i++) {
            due.is("opened", 'o', w.undo());
            due.is("left", 11 - i, w.entries());
        }
        due.fails("none", NONE, () -> w.undo());
        due.is("the sum of an empty book", 7L, w.checksum());
    }
}
