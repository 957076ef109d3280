import java.util.NoSuchElementException;

/** The boundary cases of part 6: clauses. */
public final class ClauseEdgesTest {
    private final Due due;

    private ClauseEdgesTest(Due due) {
        this.due = due;
    }

    public static void main(String[] args) {
        Due due = new Due();
        ClauseEdgesTest test = new ClauseEdgesTest(due);
        test.withoutClauses();
        test.oneTruth();
        test.itemAheadOfBound();
        test.lowestItem();
        test.signsTwice();
        test.mostTruths();
        test.truthConditions();
        test.treeConditions();
        test.leavesOfTheRow();
        test.derivedOnOneSide();
        test.derivedByTheBound();
        due.end();
    }

    private static String derived(Desk s) {
        StringBuilder text = new StringBuilder();
        int many = s.w.derivations(0);
        for (int i = 0; i < many; i++) {
            text.append(i == 0 ? "" : " ").append(s.w.derived(0, i));
        }
        return text.toString();
    }

    private void withoutClauses() {
        Desk s = new Desk(due, 's', 1, 0);
        s.tells("none may be 1", 'y', 1, "0");
        s.bound(1).tells("one may be 1", 'y', 2, "0");
        s.bound(6).tells("the bound is beyond the size", 'y', 2, "0");
        Desk six = new Desk(due, 's', 6, 6);
        six.tells("all rows", 'y', 64, "0 0 0 0 0 0");
        six.bound(5).tells("all but one", 'y', 63, "0 0 0 0 0 0");
        six.bound(1).tells("at most one is 1", 'y', 7, "0 0 0 0 0 0");
        six.bound(0).tells("none is 1", 'y', 1, "0 0 0 0 0 0");
        due.is("none derived", 0, six.w.derivations(0));
        six.fails("no clause", NoSuchElementException.class, () -> six.w.derived(0, 0));
    }

    private void oneTruth() {
        Desk s = new Desk(due, 's', 1, 0).item(1);
        s.tells("more than the bound", 'n', 0, "0 -1");
        due.is("the clause without signs is the last one", "1 64 0", derived(s));
        s.fails("no clause", NoSuchElementException.class, () -> s.w.derived(0, 3));
        s.fails("no clause", NoSuchElementException.class, () -> s.w.derived(0, -1));
        s.bound(1).tells("as many as the bound", 'y', 1, "1");
        s.item(-1).tells("both signs", 'n', 0, "0 1");
        due.is("derived", "1 64 0", derived(s));
    }

    private void itemAheadOfBound() {
        Desk s = new Desk(due, 's', 1, 0).item(1).item(-1);
        s.tells("an item is told ahead of the bound", 'n', 0, "0 1");
        s.refutation("but the bound will do", 0, 0, -1);
        s.refutation("in this order alone", 2, -1, 0);
    }

    private void lowestItem() {
        Desk s = new Desk(due, 's', 2, 2).item(1, 2).item(1).item(-1).item(-1, 2);
        s.tells("the lowest one as soon as one does not hold", 'n', 0, "1 2");
        s.refutation("a later one, and deeper", 2, 0, 1);
        s.refutation("deeper", 0, 0, 1, 2);
    }

    private void signsTwice() {
        Desk s = new Desk(due, 's', 2, 2).item(2, 0, 2).item(0, -2, -2);
        s.tells("signs at any of the three places", 'n', 0, "0 1 0 1");
        due.is("counting once", "2 128 0 2 128 0 0", derived(s));
        Desk both = new Desk(due, 's', 1, 1).item(1, -1, 0);
        both.tells("always one of both", 'y', 2, "0");
    }

    private void mostTruths() {
        Desk s = new Desk(due, 's', 6, 5);
        for (int k = 1; k <= 6; k++) {
            s.item(k);
        }
        s.tells("the last one is one too many", 'n', 0, "0 1 2 3 4 5 -1");
        due.is("at each leaf and each truth", 13, s.w.derivations(0));
        due.is("of all six", 64 * 63, s.w.derived(0, 6));
        s.bound(6).tells("all six", 'y', 1, "1 1 1 1 1 1");
        for (int k = 7; k <= 12; k++) {
            s.item(6, -6, 6);
        }
        s.tells("twelve clauses", 'y', 1, "1 1 1 1 1 1");
        s.fails("twelve are the most", IllegalStateException.class, () -> s.w.put(0, 1, 0, 0, 0, 0));
    }

    private void truthConditions() {
        Desk s = new Desk(due, 's', 2, 1).item(1, 2);
        s.tells("the least row", 'y', 2, "0 1");
        s.witness("another one", 0, 1, 0);
        s.witness("the empty one", 1);
        s.witness("one too few", 1, 1);
        s.witness("one too many", 1, 1, 0, 0);
        s.witness("two", 1, 0, 2);
        s.witness("below 0", 1, 0, -1);
        s.witness("greatest of all ints", 1, Integer.MAX_VALUE, 0);
        s.witness("more than the bound", 2, 1, 1);
        s.witness("a clause does not hold", 3, 0, 0);
        s.item(-1);
        s.witness("the bound is told ahead of clauses", 2, 1, 1);
        s.bound(0);
        s.witness("a clause does not hold", 3, 0, 0);
    }

    private void treeConditions() {
        Desk s = new Desk(due, 's', 1, 0).item(1).item(-1);
        s.refutation("the empty one", 2);
        s.refutation("no item", 1, 2);
        s.refutation("below -1", 1, -2);
        s.refutation("no item behind the end", 1, 0, 1, 2);
        s.refutation("greatest of all ints", 1, Integer.MAX_VALUE);
        s.refutation("least of all ints", 1, 0, Integer.MIN_VALUE);
        s.refutation("no next number", 2, 0);
        s.refutation("no next truth", 2, 1);
        s.refutation("no next truth on the other side", 2, 0, 0);
        s.refutation("more behind the end", 3, 0, 1, 1);
        s.refutation("more behind the end", 3, 0, -1, 0);
        s.refutation("accepted", 0, 0, 1);
        s.bound(1);
        s.refutation("not more than the bound", 2, 0, -1);
        Desk none = new Desk(due, 's', 1, 0);
        none.refutation("no items, but -1", 2, -1);
        none.refutation("no items", 1, 0);
        none.refutation("the empty one", 2);
    }

    /** A leaf must stand where the row can have it first; later it may be too late. */
    private void leavesOfTheRow() {
        Desk s = new Desk(due, 's', 2, 2).item(1).item(-1).item(1, 2).item(1, -2);
        s.tells("kept", 'n', 0, "0 1");
        s.refutation("one truth later", 0, 2, 3, 1);
        s.refutation("the tree is at its end ahead of the row", 3, 2, 0, 1, 1, 1);
        s.refutation("the item 0 at the second truth", 0, 2, 0, 1);
        s.refutation("the first one is a leaf at once", 3, 0, 1, 1);
    }

    private void derivedOnOneSide() {
        Desk one = new Desk(due, 's', 2, 2).item(1, 2).item(1, -2).item(2).item(-2);
        one.tells("kept", 'n', 0, "0 1 2 3");
        due.is("that of the side 1", "3 129 1 2 128 0 0", derived(one));
        Desk none = new Desk(due, 's', 2, 2).item(2).item(-2).item(-1, -2);
        none.tells("kept", 'n', 0, "0 1 0 1");
        due.is("that of the side 0", "2 128 0 2 128 0 0", derived(none));
        Desk both = new Desk(due, 's', 3, 3).item(1, 2, 3).item(1, 2, -3).item(1, -2).item(-1, 2).item(-1, -2);
        both.tells("kept", 'n', 0, "0 1 2 3 4");
        due.is("all other signs of both", "7 259 3 129 1 66 192 64 0", derived(both));
    }

    private void derivedByTheBound() {
        Desk s = new Desk(due, 's', 3, 1).item(1, 2).item(1, 3);
        s.tells("one is enough", 'y', 1, "1 0 0");
        s.item(2);
        s.tells("two are one too many", 'n', 0, "0 1 -1 2 -1");
        due.is("of each truth that is 1", "3 5 384 129 1 2 192 64 0", derived(s));
    }
}
