import java.util.NoSuchElementException;

/** The boundary cases of settling: what was not there, what is compared, places, claims that fall, and their order. */
public final class SettlingEdgesTest {
    private static final Class<?> NO_ENTRY = IndexOutOfBoundsException.class;
    private static final Class<?> NONE = NoSuchElementException.class;
    private static final int MOST = Integer.MAX_VALUE;
    private static final int LEAST = Integer.MIN_VALUE;
    private final Due due;

    private SettlingEdgesTest(Due due) {
        this.due = due;
    }

    public static void main(String[] args) {
        Due due = new Due();
        SettlingEdgesTest test = new SettlingEdgesTest(due);
        test.withoutEntries();
        test.notThereThen();
        test.openedAgain();
        test.carriedAgain();
        test.answerAheadOfRow();
        test.sameRowByAnotherAnswer();
        test.neitherAnswerNorRow();
        test.firstPlace();
        test.atTheShorterOne();
        test.emptyRows();
        test.lastSettlingAlone();
        test.backAgain();
        test.byLeaning();
        test.undoneBehindIt();
        test.claimsOfOneAfterAnother();
        test.claimsInTheirOrder();
        test.firstCondition();
        test.fallsThoughNothingElse();
        test.standsThoughTheAnswer();
        test.fallenOneAgain();
        test.allAtOnce();
        test.goneWithoutErratum();
        test.lettersOfErrata();
        test.placesOfErrata();
        test.everySettlingCounts();
        test.asManyCallsAsThereCanBe();
        due.end();
    }

    private static void type(Witnessworks w, int... row) {
        w.wipe();
        for (int number : row) {
            w.type(number);
        }
    }

    /** All errata from the first one on, each as its sign, settling, entry and number. */
    private static String errata(Witnessworks w, int first) {
        StringBuilder text = new StringBuilder();
        for (int i = first; i < w.errata(); i++) {
            text.append(i == first ? "" : " ").append(w.erratumSign(i)).append(w.erratum(i, 's')).append('/');
            text.append(w.erratum(i, 'e')).append('/').append(w.erratum(i, 'n'));
        }
        return text.toString();
    }

    private void withoutEntries() {
        Witnessworks w = new Witnessworks();
        due.is("no errata at first", 0, w.errata());
        due.fails("no erratum", NONE, () -> w.erratumSign(0));
        due.fails("no entry", NO_ENTRY, () -> w.isSettled(0));
        due.is("nothing to settle", 0, w.settle());
        due.is("nothing to settle", 0, w.settle());
        w.open('n', 1, 7);
        due.is("not there then", false, w.isSettled(0));
        due.is("nothing to compare", 0, w.settle());
        w.setBound(0, 8);
        due.is("one", 1, w.settle());
        due.is("those without entries count as settlings", "n4/0/0", errata(w, 0));
    }

    private void notThereThen() {
        Witnessworks w = new Witnessworks();
        w.open('n', 1, 7);
        w.settle();
        w.open('n', 1, 7);
        w.setBound(0, 9);
        w.setBound(1, 9);
        due.is("it was there, but is another one", false, w.isSettled(0));
        due.is("it was not there", false, w.isSettled(1));
        due.is("just the one that was there", 1, w.settle());
        due.is("just the one that was there", "n2/0/0", errata(w, 0));
        due.is("there now", true, w.isSettled(1));
        w.setBound(1, 11);
        due.is("it is compared now", 1, w.settle());
        due.is("it is compared now", "y3/1/0", errata(w, 1));
    }

    private void openedAgain() {
        Witnessworks w = new Witnessworks();
        w.open('n', 1, 7);
        w.open('n', 1, 7);
        w.settle();
        due.is("settled", true, w.isSettled(1));
        w.undo();
        due.fails("no entry", NO_ENTRY, () -> w.isSettled(1));
        w.open('n', 1, 7);
        due.is("the same question, but a new entry", false, w.isSettled(1));
        w.setBound(1, 8);
        due.is("nothing is compared", 0, w.settle());
        due.is("settled", true, w.isSettled(1));
        w.undo();
        due.is("the bound is told again", false, w.isSettled(1));
        due.is("that is compared", 1, w.settle());
        due.is("that is compared", "y3/1/0", errata(w, 0));
    }

    private void carriedAgain() {
        Witnessworks w = new Witnessworks();
        w.open('m', 2, 0);
        w.put(0, 0, 1, 0, 0, 0);
        w.carry(0, 'f');
        w.settle();
        due.is("settled", true, w.isSettled(1));
        w.undo();
        due.is("carried over to another kind", 1, w.carry(0, 's'));
        due.is("not there then", false, w.isSettled(1));
        due.is("nothing is compared", 0, w.settle());
        w.undo();
        w.carry(0, 's');
        due.is("the same again, but a new one", false, w.isSettled(1));
    }

    private void answerAheadOfRow() {
        Witnessworks w = new Witnessworks();
        w.open('n', 1, 7);
        w.settle();
        w.setBound(0, 9);
        due.is("another answer and another row are one erratum", 1, w.settle());
        due.is("the letter of the new one", "n2/0/0", errata(w, 0));
        w.setBound(0, 11);
        due.is("and back", 1, w.settle());
        due.is("the letter of the new one", "y3/0/0", errata(w, 1));
    }

    private void sameRowByAnotherAnswer() {
        Witnessworks w = new Witnessworks();
        w.open('r', 1, 0);
        w.settle();
        due.is("an empty witness", "y", w.answer(0) + Due.row(w, 0));
        w.setBound(0, 1);
        due.is("an empty refutation", "n", w.answer(0) + Due.row(w, 0));
        due.is("the answer is another one", false, w.isSettled(0));
        due.is("one", 1, w.settle());
        due.is("not a row", "n2/0/0", errata(w, 0));
        due.is("settled", true, w.isSettled(0));
    }

    private void neitherAnswerNorRow() {
        Witnessworks w = new Witnessworks();
        w.open('m', 3, 1);
        w.put(0, 0, 1, 0, 0, 0);
        w.settle();
        w.setBound(0, 9);
        due.is("the bound is not compared", true, w.isSettled(0));
        due.is("the bound is not compared", 0, w.settle());
        w.change(0, 0, 1, 0, 4, 5, 6);
        due.is("nor items", true, w.isSettled(0));
        due.is("nor items", 0, w.settle());
        w.open('s', 2, 2);
        w.settle();
        w.put(1, -1, -2, 0, 0, 0);
        due.is("nor the number", 3, w.number(1));
        due.is("nor the number", true, w.isSettled(1));
        due.is("nor the number", 0, w.settle());
        due.is("no errata", 0, w.errata());
    }

    /** A flow gives the items just the bound, so the first place can be any of them. */
    private void firstPlace() {
        for (int place = 0; place < 10; place++) {
            Witnessworks w = new Witnessworks();
            w.open('f', 2, 0);
            for (int i = 0; i < 10; i++) {
                w.put(0, 0, 1, 0, 0, 0);
            }
            w.settle();
            w.change(0, place, 0, 1, 6, 0, 0);
            w.setBound(0, 6);
            due.is("another row", 1, w.settle());
            due.is("at its place", "r2/0/" + place, errata(w, 0));
        }
        Witnessworks w = new Witnessworks();
        w.open('x', 7, 0);
        w.settle();
        w.put(0, 0, 0, 6, -1, -1);
        for (int i = 1; i < 7; i++) {
            w.put(0, 0, 0, 0, -1, -1);
        }
        w.settle();
        due.is("all but the node 0 itself differ behind it", "r2/0/0", errata(w, 0));
    }

    private void atTheShorterOne() {
        Witnessworks w = new Witnessworks();
        w.open('n', 1, 5);
        w.open('w', 1, 2);
        w.put(1, 2, 2, 0, 0, 0);
        w.put(1, 2, 3, 0, 0, 0);
        w.settle();
        due.is("one number", "2", Due.row(w, 1));
        w.change(1, 0, 2, 3, 0, 0, 0);
        due.is("two numbers", "2 3", Due.row(w, 1));
        w.settle();
        due.is("the old one was the shorter one", "r2/1/1", errata(w, 0));
        w.change(1, 0, 2, 2, 0, 0, 0);
        w.settle();
        due.is("the new one is the shorter one", "r3/1/1", errata(w, 1));
        Witnessworks d = new Witnessworks();
        d.open('n', 1, 7);
        due.is("six numbers", "7 3 2 3 2 2", Due.row(d, 0));
        d.settle();
        d.setBound(0, 3);
        due.is("they differ ahead of the end", 1, d.settle());
        due.is("they differ ahead of the end", "r2/0/0", errata(d, 0));
    }

    private void emptyRows() {
        Witnessworks w = new Witnessworks();
        w.open('p', 2, 0);
        w.put(0, 0, 1, 0, 0, 0);
        w.open('f', 2, 0);
        w.settle();
        due.is("no edge", "", Due.row(w, 0));
        w.setBound(0, 1);
        w.put(1, 0, 1, 0, 0, 0);
        due.is("two", 2, w.settle());
        due.is("from nothing on", "r2/0/0 r2/1/0", errata(w, 0));
        w.setBound(0, 0);
        w.drop(1, 0);
        due.is("two", 2, w.settle());
        due.is("to nothing", "r3/0/0 r3/1/0", errata(w, 2));
        due.is("nothing and nothing", 0, w.settle());
    }

    private void lastSettlingAlone() {
        Witnessworks w = new Witnessworks();
        w.open('n', 1, 4);
        w.settle();
        w.setBound(0, 6);
        w.settle();
        w.setBound(0, 8);
        w.setBound(0, 4);
        due.is("as at the first settling, not as at the last one", false, w.isSettled(0));
        due.is("one", 1, w.settle());
        due.is("each of them", "r2/0/1 r3/0/1", errata(w, 0));
        due.is("settled", true, w.isSettled(0));
    }

    private void backAgain() {
        Witnessworks w = new Witnessworks();
        w.open('n', 1, 4);
        w.settle();
        w.setBound(0, 5);
        due.is("another answer", false, w.isSettled(0));
        w.setBound(0, 4);
        due.is("the old one", true, w.isSettled(0));
        w.setBound(0, 5);
        w.undo();
        due.is("the old one", true, w.isSettled(0));
        due.is("nothing between settlings counts", 0, w.settle());
    }

    private void byLeaning() {
        Witnessworks w = new Witnessworks();
        w.open('n', 1, 2);
        w.open('n', 1, 2);
        w.open('m', 3, 0);
        w.lean(0, 2, 0);
        w.lean(1, 0, 2);
        due.is("bounds", "3 5", w.boundOf(0) + " " + w.boundOf(1));
        w.settle();
        w.put(2, 0, 1, 0, 0, 0);
        due.is("bounds", "2 4", w.boundOf(0) + " " + w.boundOf(1));
        due.is("those that lean on it too", 2, w.settle());
        due.is("by numbers, though they lean on a later one", "r2/0/0 n2/1/0", errata(w, 0));
        due.is("the one that was changed is answered so still", "n", "" + w.answer(2));
    }

    private void undoneBehindIt() {
        Witnessworks w = new Witnessworks();
        w.open('n', 1, 4);
        w.setBound(0, 5);
        due.is("nothing to compare", 0, w.settle());
        w.undo();
        due.is("one", 1, w.settle());
        due.is("what was undone is compared as well", "n2/0/0", errata(w, 0));
        due.is("settlings cannot be undone", 'o', w.undo());
        due.is("errata stay", 1, w.errata());
        due.is("they tell of an entry that is gone", "n2/0/0", errata(w, 0));
        w.open('m', 1, 0);
        w.settle();
        due.is("settlings are counted on", 1, w.errata());
        w.setBound(0, 1);
        w.settle();
        due.is("settlings are counted on", "y4/0/0", errata(w, 1));
    }

    private void claimsOfOneAfterAnother() {
        Witnessworks w = new Witnessworks();
        w.person();
        for (int i = 0; i < 3; i++) {
            w.open('n', 1, 4);
        }
        w.settle();
        type(w, 2, 2);
        for (int i = 2; i >= 0; i--) {
            due.is("accepted", 0, w.claim(0, i, false));
        }
        w.setBound(0, 5);
        w.setBound(2, 5);
        due.is("four", 4, w.settle());
        due.is("its answer, its claims, then the next one", "y2/0/0 c2/0/2 y2/2/0 c2/2/2", errata(w, 0));
        due.is("one stands", 1, w.standing());
        due.is("that of the middle one", 1, w.standingOf(0, 'e'));
    }

    private void claimsInTheirOrder() {
        Witnessworks w = new Witnessworks();
        w.person();
        w.open('f', 3, 1);
        w.put(0, 0, 2, 3, 0, 0);
        w.put(0, 0, 1, 3, 0, 0);
        w.put(0, 1, 2, 3, 0, 0);
        int[][] rows = {{0, 1, 1}, {1, 0, 0}};
        for (int[] row : rows) {
            type(w, row);
            due.is("accepted", 0, w.claim(0, 0, true));
        }
        w.settle();
        w.change(0, 0, 0, 2, 0, 0, 0);
        w.change(0, 2, 1, 0, 3, 0, 0);
        due.is("three", 3, w.settle());
        due.is("in the order in which they came", "n2/0/0 c2/0/4 c2/0/2", errata(w, 0));
        due.is("none stands", 0, w.standing());
    }

    private void firstCondition() {
        Witnessworks w = new Witnessworks();
        w.person();
        w.open('m', 3, 1);
        w.put(0, 0, 1, 0, 0, 0);
        type(w, 1, 0, 2);
        due.is("accepted", 0, w.claim(0, 0, true));
        w.setBound(0, 0);
        w.drop(0, 0);
        due.is("one falls", 1, w.settle());
        due.is("of two conditions the first one", "c1/0/3", errata(w, 0));
        w.open('s', 1, 1);
        type(w, 1);
        due.is("accepted", 0, w.claim(0, 1, true));
        w.setBound(1, 0);
        w.put(1, -1, 0, 0, 0, 0);
        w.settle();
        due.is("of two conditions the first one", "c2/1/2", errata(w, 1));
        w.open('a', 2, 1);
        type(w, 1, 1);
        due.is("accepted", 0, w.claim(0, 2, true));
        w.put(2, 0, 0, 1, 0, 0);
        w.settle();
        due.is("of a new entry too", "c3/2/2", errata(w, 2));
    }

    private void fallsThoughNothingElse() {
        Witnessworks w = new Witnessworks();
        w.person();
        w.open('m', 2, 2);
        w.put(0, 0, 1, 0, 0, 0);
        type(w, 0, 1);
        due.is("both alone", 0, w.claim(0, 0, true));
        w.settle();
        w.setBound(0, 1);
        due.is("answer and row are the same", true, w.isSettled(0));
        due.is("one falls", 1, w.settle());
        due.is("one falls", "c2/0/4", errata(w, 0));
        due.is("a point stays", 1, w.points(0));
    }

    private void standsThoughTheAnswer() {
        Witnessworks w = new Witnessworks();
        w.person();
        w.open('d', 1, 0);
        type(w, 0);
        due.is("accepted", 0, w.claim(0, 0, true));
        w.settle();
        w.put(0, 3, 0, 0, 0, 0);
        w.setBound(0, 3);
        w.setBound(0, 0);
        due.is("accepted still", 0, w.settle());
        w.setBound(0, 6);
        due.is("another row, and it falls", 2, w.settle());
        due.is("another row, and it falls", "r3/0/0 c3/0/2", errata(w, 0));
        type(w, 2);
        due.is("accepted", 0, w.claim(0, 0, true));
        w.put(0, 3, 0, 0, 0, 0);
        w.change(0, 0, 0, 0, 0, 0, 0);
        due.is("the same answer and row, and it stands", 0, w.settle());
        due.is("stands", 1, w.standing());
    }

    private void fallenOneAgain() {
        Witnessworks w = new Witnessworks();
        w.person();
        w.open('n', 1, 4);
        type(w, 2, 2);
        due.is("accepted", 0, w.claim(0, 0, false));
        w.setBound(0, 6);
        due.is("it falls", 1, w.settle());
        w.setBound(0, 4);
        due.is("it does not stand again by itself", 1, w.settle());
        due.is("it does not stand again by itself", 0, w.standing());
        due.is("accepted again", 0, w.claim(0, 0, false));
        due.is("it stands again", 1, w.standing());
    }

    /** Twelve answers and sixteen claims are the most that one settling can tell. */
    private void allAtOnce() {
        Witnessworks w = new Witnessworks();
        w.person();
        for (int i = 0; i < 12; i++) {
            w.open('n', 1, 6);
        }
        for (int i = 0; i < 11; i++) {
            w.lean(i, 11, 4);
        }
        w.settle();
        type(w, 2, 3);
        for (int i = 11; i >= 0; i--) {
            due.is("accepted", 0, w.claim(0, i, false));
        }
        type(w, 3, 2);
        for (int i = 0; i < 4; i++) {
            due.is("accepted", 0, w.claim(0, i, false));
        }
        w.setBound(11, 7);
        due.is("all bounds are greater", 11, w.boundOf(0));
        due.is("all at once", 28, w.settle());
        due.is("all at once", 28, w.errata());
        due.is("none stands", 0, w.standing());
        StringBuilder want = new StringBuilder();
        for (int i = 0; i < 12; i++) {
            want.append(i == 0 ? "" : " ").append("y2/").append(i).append("/0 c2/").append(i).append("/2");
            want.append(i < 4 ? " c2/" + i + "/2" : "");
        }
        due.is("by entries", want.toString(), errata(w, 0));
        due.is("nothing more", 0, w.settle());
    }

    private void goneWithoutErratum() {
        Witnessworks w = new Witnessworks();
        w.person();
        w.open('n', 1, 4);
        w.open('n', 1, 4);
        w.settle();
        type(w, 2, 2);
        w.claim(0, 1, false);
        w.claim(0, 0, false);
        w.undo();
        due.is("one is gone", 1, w.standing());
        due.is("the other one stands", 0, w.standingOf(0, 'e'));
        due.is("without an erratum", 0, w.errata());
        due.is("and later without one", 0, w.settle());
        w.open('n', 1, 4);
        due.is("it does not stand for the new one", 1, w.standing());
        due.is("and nothing is compared", 0, w.settle());
    }

    private void lettersOfErrata() {
        Witnessworks w = new Witnessworks();
        w.open('n', 1, 4);
        w.settle();
        due.fails("no erratum, and no letter", NONE, () -> w.erratum(0, 'x'));
        w.setBound(0, 5);
        w.settle();
        int letters = 0;
        for (int letter = 0; letter < 256; letter++) {
            try {
                w.erratum(0, (char) letter);
                letters++;
            } catch (IllegalArgumentException e) {
                continue;
            }
        }
        due.is("three letters", 3, letters);
        due.is("settling", 2, w.erratum(0, 's'));
        due.is("entry", 0, w.erratum(0, 'e'));
        due.is("otherwise 0", 0, w.erratum(0, 'n'));
        due.fails("not in capitals", IllegalArgumentException.class, () -> w.erratum(0, 'S'));
    }

    private void placesOfErrata() {
        Witnessworks w = new Witnessworks();
        w.open('n', 1, 4);
        w.settle();
        for (int i = 0; i < 40; i++) {
            int many = i;
            due.fails("just behind them", NONE, () -> w.erratumSign(many));
            due.fails("just behind them", NONE, () -> w.erratum(many, 's'));
            w.setBound(0, i % 2 == 0 ? 5 : 4);
            due.is("one more", 1, w.settle());
            due.is("the last one", i % 2 == 0 ? 'y' : 'n', w.erratumSign(i));
            due.is("the last one", i + 2, w.erratum(i, 's'));
        }
        for (int i = 0; i < 40; i++) {
            due.is("not forgotten", i % 2 == 0 ? 'y' : 'n', w.erratumSign(i));
            due.is("not forgotten", i + 2, w.erratum(i, 's'));
        }
        for (int none : new int[] {-1, 40, MOST, LEAST}) {
            due.fails("no erratum", NONE, () -> w.erratumSign(none));
            due.fails("no erratum", NONE, () -> w.erratum(none, 's'));
            due.fails("no erratum, and no letter", NONE, () -> w.erratum(none, 'x'));
        }
    }

    private void everySettlingCounts() {
        Witnessworks w = new Witnessworks();
        w.open('n', 1, 4);
        for (int i = 0; i < 500; i++) {
            due.is("nothing", 0, w.settle());
        }
        w.setBound(0, 5);
        due.is("one", 1, w.settle());
        due.is("settling", 501, w.erratum(0, 's'));
    }

    /** 512 calls are promised; as many errata as they can tell of answers must all be there by the last one. */
    private void asManyCallsAsThereCanBe() {
        Witnessworks w = new Witnessworks();
        for (int i = 0; i < 12; i++) {
            w.open('n', 1, 4);
        }
        for (int i = 0; i < 11; i++) {
            w.lean(i, 11, 0);
        }
        w.settle();
        int calls = 24;
        int all = 0;
        while (calls + 2 < 511) {
            w.setBound(11, all % 24 == 0 ? 3 : 4);
            all += w.settle();
            calls += 2;
        }
        due.is("twelve each time", 12 * 243, all);
        due.is("the call 511", 12 * 243, w.errata());
        due.is("the call 512", 'y', w.erratumSign(12 * 243 - 1));
        due.is("calls", 510, calls);
    }
}
