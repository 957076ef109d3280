import java.util.NoSuchElementException;

/** The boundary cases of part 10: machines and games. */
public final class MachineEdgesTest {
    private static final int MOST = Integer.MAX_VALUE;
    private static final int LEAST = Integer.MIN_VALUE;
    private final Due due;

    private MachineEdgesTest(Due due) {
        this.due = due;
    }

    public static void main(String[] args) {
        Due due = new Due();
        MachineEdgesTest test = new MachineEdgesTest(due);
        test.oneState();
        test.statesWithoutItems();
        test.lastStateIfThereIsNoSuch();
        test.longestWord();
        test.leastOfTheShortest();
        test.likenessConditions();
        test.letterConditions();
        test.tellingApart();
        test.oneNode();
        test.nodesWithoutItems();
        test.lastNodeIfThereIsNoSuch();
        test.waysThatThereAreNot();
        test.weights();
        test.leastWays();
        test.winningConditions();
        test.refutingConditions();
        test.asManyItemsAsTheSize();
        due.end();
    }

    private void oneState() {
        Desk a = new Desk(due, 'a', 1, 0);
        a.tells("with itself", 'y', 1, "0");
        a.bound(7).tells("the greatest bound", 'y', 1, "0");
        a.item(0, 0, 1).tells("final", 'y', 1, "0");
        a.witness("accepted", 0, 0);
        a.witness("the empty one", 1);
        a.witness("no state", 1, 1);
        a.refutation("the empty word does not", 2);
    }

    private void statesWithoutItems() {
        Desk a = new Desk(due, 'a', 3, 2);
        a.tells("all alike", 'y', 1, "0 0 0");
        a.item(1, 2, 0).tells("not final", 'y', 1, "0 0 0");
        a.w.change(0, 0, 0, 0, 1, 0, 0);
        a.tells("the others are not final", 'n', 2, "");
        due.is("alike without items", 0, a.w.tells(0, 0, 2));
        a.fails("alike without items", NoSuchElementException.class, () -> a.w.tells(0, 1, 2));
        a.item(1, 1, 1).w.drop(0, 0);
        a.tells("the item of the state 1 is that of the state 0 now, and leads to 1", 'n', 2, "");
    }

    private void lastStateIfThereIsNoSuch() {
        for (int size = 1; size <= 8; size++) {
            Desk a = new Desk(due, 'a', size, size - 1);
            for (int state = 0; state < size; state++) {
                a.item(state, state, state == size - 1 ? 1 : 0);
            }
            char reply = size == 1 ? 'y' : 'n';
            due.is("the last of " + size, reply, a.w.answer(0));
            for (int bound = size; bound <= 7; bound++) {
                due.is("beyond the last of " + size, reply, a.bound(bound).w.answer(0));
            }
            if (size > 2) {
                due.is("the last but one of " + size, 'y', a.bound(size - 2).w.answer(0));
            }
            due.is("the first of " + size, 'y', a.bound(0).w.answer(0));
        }
    }

    private void longestWord() {
        Desk a = new Desk(due, 'a', 8, 1);
        for (int state = 0; state < 7; state++) {
            a.item(state + 1, state, 0);
        }
        a.item(7, 7, 1);
        a.tells("six letters", 'n', 8, "0 0 0 0 0 0");
        due.is("six letters", 6, a.w.tells(0, 0, 1));
        due.is("no letters", 0, a.w.tells(0, 7, 0));
    }

    private void leastOfTheShortest() {
        Desk a = new Desk(due, 'a', 4, 1).item(2, 3, 0).item(0, 0, 0).item(2, 2, 1).item(3, 3, 1);
        a.tells("0 ahead of 1", 'n', 3, "0");
        a.refutation("1 will do", 0, 1);
        a.w.change(0, 0, 0, 3, 0, 0, 0);
        a.tells("1 alone", 'n', 3, "1");
    }

    private void likenessConditions() {
        Desk a = new Desk(due, 'a', 3, 1).item(2, 0, 0).item(1, 1, 0).item(2, 2, 1);
        a.tells("not alike", 'n', 3, "0");
        a.witness("the empty one", 1);
        a.witness("one too few", 1, 0, 1);
        a.witness("one too many", 1, 0, 1, 2, 0);
        a.witness("no state", 1, 0, 1, 3);
        a.witness("below 0", 1, 0, 1, -1);
        a.witness("greatest of all ints", 1, MOST, 1, 2);
        a.witness("least of all ints", 1, LEAST, 1, 2);
        a.witness("one is final", 2, 0, 1, 1);
        a.witness("one is final, told ahead of where they go", 2, 0, 0, 0);
        a.witness("they go to unlike ones", 3, 0, 0, 2);
        a.witness("both are unlike", 4, 0, 1, 2);
        a.witness("other numbers", 4, 2, 0, 1);
        a.w.change(0, 0, 0, 0, 0, 0, 0);
        a.tells("alike", 'y', 2, "0 0 2");
        a.witness("other numbers", 0, 1, 1, 0);
        a.bound(2);
        a.witness("both are unlike", 4, 0, 0, 2);
        Desk one = new Desk(due, 'a', 2, 1).item(0, 1, 0).item(1, 0, 0);
        one.witness("by the letter 1", 0, 1, 1);
        Desk by = new Desk(due, 'a', 4, 1).item(0, 2, 0).item(1, 3, 0).item(2, 2, 1).item(3, 3, 1);
        by.witness("by the letter 1 to unlike ones", 3, 0, 0, 2, 3);
        by.witness("by the letter 1 to like ones", 0, 0, 0, 2, 2);
    }

    private void letterConditions() {
        Desk a = new Desk(due, 'a', 3, 1).item(2, 0, 0).item(1, 1, 0).item(2, 2, 1);
        a.refutation("accepted", 0, 0);
        a.refutation("longer", 0, 1, 1, 0, 1);
        a.refutation("no letter", 1, 2);
        a.refutation("below 0", 1, -1);
        a.refutation("greatest of all ints", 1, 0, MOST);
        a.refutation("least of all ints", 1, LEAST);
        a.refutation("no letter behind one that leads so", 1, 0, 2);
        a.refutation("the empty word", 2);
        a.refutation("it does not lead so", 2, 1);
        a.bound(2);
        a.refutation("the empty word", 0);
    }

    private void tellingApart() {
        Desk a = new Desk(due, 'a', 3, 0).item(2, 0, 0).item(1, 1, 0).item(2, 2, 1);
        due.is("no letters", 0, a.w.tells(0, 2, 0));
        due.is("one letter", 1, a.w.tells(0, 1, 0));
        a.fails("the same", NoSuchElementException.class, () -> a.w.tells(0, 2, 2));
        a.fails("no state", IllegalArgumentException.class, () -> a.w.tells(0, 3, 3));
        a.fails("no state", IllegalArgumentException.class, () -> a.w.tells(0, 0, 3));
        a.fails("no state", IllegalArgumentException.class, () -> a.w.tells(0, -1, 0));
    }

    private void oneNode() {
        Desk x = new Desk(due, 'x', 1, 0);
        x.tells("the player 0's, of the weight 0", 'y', 1, "0");
        x.bound(6).tells("the greatest bound", 'y', 1, "0");
        x.item(0, 1, 0, -1, -1).tells("an odd weight", 'n', 0, "-1");
        x.w.change(0, 0, 1, 1, 0, -1, -1);
        x.tells("the player 1's", 'n', 0, "0");
        x.w.change(0, 0, 1, 4, 0, 0, 0);
        x.tells("an even weight of the player 1", 'y', 1, "-1");
        x.w.drop(0, 0);
        x.tells("without it", 'y', 1, "0");
    }

    private void nodesWithoutItems() {
        Desk x = new Desk(due, 'x', 7, 6);
        x.tells("each to itself", 'y', 7, "0 1 2 3 4 5 6");
        x.item(1, 5, 1, -1, -1).tells("the first one leads to one of these", 'y', 7, "-1 1 2 3 4 5 6");
        x.w.change(0, 0, 1, 5, 0, -1, -1);
        x.tells("and to itself", 'y', 6, "-1 1 2 3 4 5 6");
        x.bound(0).tells("there it begins", 'n', 6, "0 -1 -1 -1 -1 -1 -1");
    }

    private void lastNodeIfThereIsNoSuch() {
        for (int size = 1; size <= 7; size++) {
            Desk x = new Desk(due, 'x', size, 0);
            for (int node = 0; node < size; node++) {
                x.item(0, node == size - 1 ? 1 : 2, node, -1, -1);
            }
            for (int bound = 0; bound <= 6; bound++) {
                char reply = bound >= size - 1 ? 'n' : 'y';
                due.is(bound + " of " + size, reply, x.bound(bound).w.answer(0));
            }
            due.is("all but the last one", size - 1, x.w.number(0));
        }
    }

    private void waysThatThereAreNot() {
        Desk x = new Desk(due, 'x', 2, 0).item(0, 1, 0, -1, 1);
        x.tells("the last one of three", 'y', 2, "1 1");
        x.w.change(0, 0, 0, 1, 0, 1, -1);
        x.tells("the middle one of three", 'y', 2, "1 1");
        x.w.change(0, 0, 0, 1, 0, -1, -1);
        x.tells("the first one alone", 'n', 1, "-1 -1");
        x.fails("the first one must be there", IllegalArgumentException.class, () -> x.w.put(0, 0, 0, -1, 1, 1));
        x.fails("below -1", IllegalArgumentException.class, () -> x.w.put(0, 0, 0, 1, -2, 1));
        x.fails("no node", IllegalArgumentException.class, () -> x.w.put(0, 0, 0, 1, 1, 2));
    }

    private void weights() {
        Desk x = new Desk(due, 'x', 2, 0).item(0, 4, 1, -1, -1).item(0, 5, 0, -1, -1);
        x.tells("the greatest one is odd", 'n', 0, "-1 -1");
        x.w.change(0, 1, 0, 3, 0, -1, -1);
        x.tells("the greatest one is even", 'y', 2, "1 0");
        x.w.change(0, 0, 0, 5, 1, -1, -1);
        x.w.change(0, 1, 0, 0, 1, -1, -1);
        x.tells("what comes once does not count", 'y', 2, "1 1");
        x.fails("six is too much", IllegalArgumentException.class, () -> x.w.change(0, 0, 0, 6, 0, -1, -1));
        x.fails("no third player", IllegalArgumentException.class, () -> x.w.change(0, 0, 2, 5, 0, -1, -1));
    }

    private void leastWays() {
        Desk x = new Desk(due, 'x', 4, 1).item(0, 1, 0, 3, 2).item(0, 1, 3, 1, 2).item(0, 2, 0, 1, 2);
        x.tells("wherever else it leads", 'y', 4, "0 2 1 3");
        x.witness("the greatest one that will do", 0, 3, 3, 2, 3);
        Desk far = new Desk(due, 'x', 3, 2).item(0, 0, 0, -1, -1).item(0, 1, 0, 1, -1).item(1, 3, 1, 2, 0);
        far.tells("the player 1 stays", 'n', 2, "-1 -1 2");
        far.w.change(0, 2, 1, 3, 1, 0, 1);
        far.tells("from both the player 0 goes on", 'y', 3, "0 0 -1");
    }

    private void winningConditions() {
        Desk x = new Desk(due, 'x', 3, 0).item(0, 1, 0, 1, -1).item(1, 2, 0, 1, -1).item(0, 1, 2, 0, 1);
        x.tells("by the node 1", 'y', 3, "1 -1 0");
        x.witness("elsewhere it may lose", 0, 1, -1, 2);
        x.witness("the empty one", 1);
        x.witness("one too few", 1, 1, -1);
        x.witness("one too many", 1, 1, -1, 0, 0);
        x.witness("one of the other player", 1, 1, 0, 0);
        x.witness("none of the own one", 1, -1, -1, 0);
        x.witness("it does not lead there", 1, 2, -1, 0);
        x.witness("no node", 1, 3, -1, 0);
        x.witness("below -1", 1, 1, -2, 0);
        x.witness("32 more", 1, 33, -1, 0);
        x.witness("greatest of all ints", 1, MOST, -1, 0);
        x.witness("least of all ints", 1, LEAST, -1, 0);
        x.witness("a round that loses", 2, 0, -1, 0);
        x.refutation("as a row of the player 1", 2, -1, 0, -1);
        x.bound(2);
        x.witness("it begins there", 2, 1, -1, 2);
        x.witness("it begins there", 0, 1, -1, 1);
    }

    private void refutingConditions() {
        Desk x = new Desk(due, 'x', 3, 0).item(1, 1, 0, 1, -1).item(1, 2, 0, 1, 2).item(0, 2, 2, 0, -1);
        x.tells("the player 1 stays", 'n', 1, "0 0 -1");
        x.refutation("elsewhere it may lose", 0, 0, 1, -1);
        x.refutation("the empty one", 1);
        x.refutation("one of the other player", 1, 0, 0, 2);
        x.refutation("none of the own one", 1, 0, -1, -1);
        x.refutation("it does not lead there", 1, 2, 0, -1);
        x.refutation("a round that loses", 2, 1, 1, -1);
        x.refutation("a round of both", 2, 1, 0, -1);
        x.refutation("the other player stays", 2, 1, 2, -1);
        x.witness("as a row of the player 0", 2, -1, -1, 2);
        x.bound(2).tells("there the player 0 stays", 'y', 1, "-1 -1 2");
    }

    private void asManyItemsAsTheSize() {
        for (int size = 1; size <= 8; size++) {
            Desk a = new Desk(due, 'a', size, 0);
            for (int i = 0; i < size; i++) {
                a.item(size - 1, 0, 1);
            }
            due.is("as many as the size", size, a.w.items(0));
            int last = size - 1;
            a.fails("one more", IllegalStateException.class, () -> a.w.put(0, last, 0, 0, 0, 0));
            a.fails("no state", IllegalArgumentException.class, () -> a.w.put(0, last + 1, 0, 0, 0, 0));
            if (size <= 7) {
                Desk x = new Desk(due, 'x', size, 0);
                for (int i = 0; i < size; i++) {
                    x.item(1, 5, last, last, last);
                }
                due.is("as many as the size", size, x.w.items(0));
                x.fails("one more", IllegalStateException.class, () -> x.w.put(0, 0, 0, last, -1, -1));
                x.fails("no node", IllegalArgumentException.class, () -> x.w.put(0, 0, 0, last + 1, -1, -1));
            }
        }
    }
}
