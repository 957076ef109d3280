import java.util.NoSuchElementException;

/** The boundary cases of part 4: drawings. */
public final class DrawingEdgesTest {
    private final Due due;

    private DrawingEdgesTest(Due due) {
        this.due = due;
    }

    public static void main(String[] args) {
        Due due = new Due();
        DrawingEdgesTest test = new DrawingEdgesTest(due);
        test.nothingToDraw();
        test.itemsBelowTheBound();
        test.walksOfParts();
        test.fourNodes();
        test.drawingConditions();
        test.fiveNodes();
        test.threeAndThree();
        test.mostEdges();
        test.coreConditions();
        test.waysOfThree();
        due.end();
    }

    private void nothingToDraw() {
        Desk one = new Desk(due, 'p', 1, 11);
        one.tells("one node", 'y', 0, "");
        one.witness("the empty one", 0);
        one.witness("a number too many", 1, 0);
        one.refutation("the empty one", 1);
        one.fails("no edge can be", IllegalArgumentException.class, () -> one.w.put(0, 0, 0, 0, 0, 0));
        one.fails("no walk", NoSuchElementException.class, () -> one.w.walk(0, 0));
    }

    private void itemsBelowTheBound() {
        Desk p = new Desk(due, 'p', 3, 0).item(0, 1).item(1, 2);
        p.tells("none counts", 'y', 0, "");
        p.witness("the edge does not count", 1, 1, 0);
        p.bound(1).tells("just the item 0 counts", 'y', 1, "1 0");
        due.is("to and fro", 2, p.w.walk(0, 0));
        p.bound(2).tells("both count", 'y', 1, "1 0 2 1");
        due.is("to and fro", 4, p.w.walk(0, 0));
        p.bound(11).tells("there are no more", 'y', 1, "1 0 2 1");
        p.w.drop(0, 0);
        p.bound(1).tells("the later one has the number 0 then", 'y', 1, "2 1");
        p.fails("one that does not count is between them too", UnsupportedOperationException.class, () -> {
            p.w.setBound(0, 0);
            return p.w.put(0, 2, 1, 0, 0, 0);
        });
    }

    private void walksOfParts() {
        Desk apart = new Desk(due, 'p', 4, 2).item(0, 1).item(2, 3);
        apart.tells("two parts", 'y', 2, "1 0 3 2");
        due.is("the first walk", 2, apart.w.walk(0, 0));
        due.is("the second walk", 2, apart.w.walk(0, 1));
        apart.fails("no such walk", NoSuchElementException.class, () -> apart.w.walk(0, 2));
        apart.fails("no such walk", NoSuchElementException.class, () -> apart.w.walk(0, -1));
        Desk lonely = new Desk(due, 'p', 5, 3).item(1, 2).item(2, 4).item(4, 1);
        lonely.tells("nodes without an edge are not taken off", 'y', 2, "2 4 1 4 1 2");
        due.is("three goings", 3, lonely.w.walk(0, 1));
        Desk star = new Desk(due, 'p', 4, 3).item(3, 0).item(2, 0).item(1, 0);
        star.tells("the lowest one first", 'y', 1, "1 2 3 0 0 0");
        star.witness("any round of one part", 0, 1, 3, 2, 0, 0, 0);
        star.witness("not the lowest one first", 2, 2, 3, 1, 0, 0, 0);
        due.is("each edge twice", 6, star.w.walk(0, 0));
        Desk flag = new Desk(due, 'p', 4, 4).item(0, 1).item(1, 2).item(2, 0).item(0, 3);
        flag.tells("an edge more", 'y', 2, "1 2 3 0 2 0 1 0");
        due.is("from 0 to 1, to 2, to 0, to 3 and back, where behind 3 is 1 again", 5, flag.w.walk(0, 0));
        due.is("from 0 to 2, to 1 and back", 3, flag.w.walk(0, 1));
    }

    private Desk four() {
        return new Desk(due, 'p', 4, 6).item(0, 1).item(0, 2).item(0, 3).item(1, 2).item(1, 3).item(2, 3);
    }

    private void fourNodes() {
        Desk p = four();
        p.tells("each by the ones ahead of it", 'y', 4, "1 2 3 0 3 2 0 1 3 0 2 1");
        for (int i = 0; i < 4; i++) {
            due.is("three goings", 3, p.w.walk(0, i));
        }
        p.witness("seen from behind", 0, 1, 3, 2, 0, 2, 3, 0, 3, 1, 0, 1, 2);
    }

    private void drawingConditions() {
        Desk p = four();
        p.witness("one too few", 1, 1, 2, 3, 0, 3, 2, 0, 1, 3, 0, 2);
        p.witness("one too many", 1, 1, 2, 3, 0, 3, 2, 0, 1, 3, 0, 2, 1, 0);
        p.witness("itself", 2, 1, 2, 0, 0, 3, 2, 0, 1, 3, 0, 2, 1);
        p.witness("one twice", 2, 1, 2, 2, 0, 3, 2, 0, 1, 3, 0, 2, 1);
        p.witness("no node", 2, 1, 2, 4, 0, 3, 2, 0, 1, 3, 0, 2, 1);
        p.witness("no node", 2, 1, 2, -1, 0, 3, 2, 0, 1, 3, 0, 2, 1);
        p.witness("far from nodes", 2, 1, 2, 35, 0, 3, 2, 0, 1, 3, 0, 2, 1);
        p.witness("least of all ints", 2, 1, 2, Integer.MIN_VALUE, 0, 3, 2, 0, 1, 3, 0, 2, 1);
        p.witness("greatest of all ints", 2, 1, 2, Integer.MAX_VALUE, 0, 3, 2, 0, 1, 3, 0, 2, 1);
        p.witness("the round, but not the lowest one first", 2, 1, 2, 3, 3, 2, 0, 0, 1, 3, 0, 2, 1);
        p.witness("a round that crosses", 3, 1, 2, 3, 0, 2, 3, 0, 1, 3, 0, 2, 1);
    }

    private Desk five(int size, int bound) {
        Desk p = new Desk(due, 'p', size, bound);
        for (int a = 0; a < 5; a++) {
            for (int b = a + 1; b < 5; b++) {
                p.item(a, b);
            }
        }
        return p;
    }

    private void fiveNodes() {
        Desk p = five(5, 10);
        p.tells("five, each with each", 'n', 0, "5 0 1 2 3 4 5 6 7 8 9");
        p.fails("there is no drawing", NoSuchElementException.class, () -> p.w.walk(0, 0));
        p.bound(9);
        due.is("without the last edge", 6, p.w.number(0));
        Desk longer = five(6, 11);
        longer.w.drop(0, 0);
        longer.item(0, 5).item(5, 1);
        longer.tells("by a way of two edges", 'n', 0, "5 0 1 2 3 4 5 6 7 8 9 10");
        longer.bound(10);
        due.is("the way is cut", 'y', longer.w.answer(0));
        Desk more = five(7, 11).item(5, 6);
        more.tells("what is beside it is taken away", 'n', 0, "5 0 1 2 3 4 5 6 7 8 9");
    }

    private Desk threes(int size, int bound) {
        Desk p = new Desk(due, 'p', size, bound);
        for (int a = 0; a < 3; a++) {
            for (int b = 3; b < 6; b++) {
                p.item(a, b);
            }
        }
        return p;
    }

    private void threeAndThree() {
        Desk p = threes(6, 9);
        p.tells("three with three", 'n', 0, "3 0 1 2 3 4 5 6 7 8");
        p.bound(8);
        due.is("without the last edge", 'y', p.w.answer(0));
        due.is("its walks", 4, p.w.number(0));
        Desk longer = threes(7, 10);
        longer.w.drop(0, 8);
        longer.item(2, 6).item(6, 5);
        longer.tells("by a way of two edges", 'n', 0, "3 0 1 2 3 4 5 6 7 8 9");
    }

    private void mostEdges() {
        Desk p = threes(7, 11).item(0, 1).item(5, 6);
        p.tells("the last ones are taken away first", 'n', 0, "3 0 1 2 3 4 5 6 7 8");
        p.fails("eleven are the most", IllegalStateException.class, () -> p.w.put(0, 0, 2, 0, 0, 0));
        Desk twice = new Desk(due, 'p', 7, 11).item(0, 6).item(6, 5).item(0, 5);
        twice.item(0, 3).item(0, 4).item(1, 3).item(1, 4).item(1, 5).item(2, 3).item(2, 4).item(2, 5);
        twice.tells("of two ways the later edge is taken away", 'n', 0, "3 0 1 3 4 5 6 7 8 9 10");
    }

    private void coreConditions() {
        Desk p = threes(6, 9);
        p.refutation("accepted", 0, 3, 0, 1, 2, 3, 4, 5, 6, 7, 8);
        p.refutation("the empty one", 1);
        p.refutation("no such number", 1, 4, 0, 1, 2, 3, 4, 5, 6, 7, 8);
        p.refutation("no such number", 1, -3, 0, 1, 2, 3, 4, 5, 6, 7, 8);
        p.refutation("no item", 1, 3, 0, 1, 2, 3, 4, 5, 6, 7, 9);
        p.refutation("no item", 1, 3, -1, 1, 2, 3, 4, 5, 6, 7, 8);
        p.refutation("greatest of all ints", 1, 3, 0, Integer.MAX_VALUE);
        p.refutation("least of all ints", 1, 3, Integer.MIN_VALUE, 0);
        p.refutation("one twice", 1, 3, 0, 0);
        p.refutation("not rising", 1, 3, 1, 0);
        p.refutation("a node with one edge", 2, 3, 0);
        p.refutation("a node with one edge", 2, 3, 0, 1, 2, 3, 4, 5, 6);
        p.refutation("no nodes", 3, 3);
        p.refutation("no nodes", 3, 5);
        p.refutation("a round of four", 3, 3, 0, 1, 3, 4);
        p.refutation("six with three, by 5", 3, 5, 0, 1, 2, 3, 4, 5, 6, 7, 8);
        p.bound(8);
        p.refutation("the last one does not count", 1, 3, 0, 1, 2, 3, 4, 5, 6, 7, 8);
        Desk five = five(5, 11);
        five.refutation("accepted", 0, 5, 0, 1, 2, 3, 4, 5, 6, 7, 8, 9);
        five.refutation("five with four, by 3", 3, 3, 0, 1, 2, 3, 4, 5, 6, 7, 8, 9);
        five.refutation("two with three only", 3, 5, 0, 1, 2, 3, 4, 5, 6, 7, 8);
        five.refutation("no item, though below the bound", 1, 5, 10);
        Desk wheel = new Desk(due, 'p', 6, 10).item(0, 1).item(0, 2).item(0, 3).item(0, 4).item(0, 5);
        wheel.item(1, 2).item(2, 3).item(3, 4).item(4, 5).item(5, 1);
        wheel.refutation("six, but one of them with five", 3, 3, 0, 1, 2, 3, 4, 5, 6, 7, 8, 9);
    }

    private void waysOfThree() {
        Desk p = new Desk(due, 'p', 6, 9).item(0, 1).item(1, 2).item(2, 0).item(3, 4).item(4, 5).item(5, 3);
        p.item(0, 3).item(1, 4).item(2, 5);
        p.refutation("no two halves", 4, 3, 0, 1, 2, 3, 4, 5, 6, 7, 8);
        due.is("it can be drawn", 'y', p.w.answer(0));
        Desk two = new Desk(due, 'p', 7, 11).item(0, 1).item(0, 6).item(6, 1).item(0, 2).item(1, 3);
        two.item(2, 4).item(2, 5).item(3, 4).item(3, 5).item(4, 5);
        two.refutation("two ways between the same two", 4, 3, 0, 1, 2, 3, 4, 5, 6, 7, 8, 9);
        Desk longer = threes(7, 10);
        longer.w.drop(0, 0);
        longer.item(0, 6).item(6, 3);
        longer.refutation("a way of two edges", 0, 3, 0, 1, 2, 3, 4, 5, 6, 7, 8, 9);
    }
}
