import java.util.NoSuchElementException;

/** The boundary cases of part 9: permutations and words. */
public final class WordEdgesTest {
    private static final int MOST = Integer.MAX_VALUE;
    private static final int LEAST = Integer.MIN_VALUE;
    private final Due due;

    private WordEdgesTest(Due due) {
        this.due = due;
    }

    public static void main(String[] args) {
        Due due = new Due();
        WordEdgesTest test = new WordEdgesTest(due);
        test.withoutItems();
        test.itemsThatAreUsed();
        test.lastOfSixPoints();
        test.shortestOfItems();
        test.itemConditions();
        test.rowConditions();
        test.rowsOfAllPoints();
        test.orbits();
        test.wordWithoutLetters();
        test.moreLettersThanTheBound();
        test.atBothEnds();
        test.stepsToItself();
        test.leastOfTheShortest();
        test.stepConditions();
        test.closureConditions();
        test.closureOfNone();
        test.itemsOfWords();
        test.distances();
        due.end();
    }

    private void withoutItems() {
        Desk g = new Desk(due, 'g', 2, 4);
        g.tells("each point to itself", 'y', 1, "");
        g.witness("the empty one", 0);
        g.witness("there are no items", 1, 0);
        g.witness("there are no items", 1, 1);
        g.refutation("itself is one of them", 4, 1, 0);
        g.item(0, 1).tells("asked for that", 'y', 1, "");
        g.w.change(0, 0, 1, 0, 0, 0, 0);
        g.tells("the item 0 is not used", 'n', 1, "1 0");
    }

    private void itemsThatAreUsed() {
        Desk g = new Desk(due, 'g', 3, 0).item(1, 2, 0).item(1, 0, 2).item(0, 2, 1).item(1, 2, 0).item(2, 0, 1);
        g.tells("none", 'n', 1, "1 0");
        g.bound(1).tells("one", 'n', 2, "2 1 6");
        g.bound(2).tells("two", 'y', 6, "2 1");
        g.bound(3).tells("three", 'y', 6, "3");
        g.bound(4).tells("all four", 'y', 6, "3");
        g.witness("the item 4 twice", 0, 4, 4);
        g.bound(3);
        g.witness("the item 4 is not used", 1, 4, 4);
        g.w.drop(0, 4);
        g.bound(4);
        g.tells("as far as there are these", 'y', 6, "3");
        g.witness("there is no item 4", 1, 4, 4);
        g.w.drop(0, 0);
        g.tells("the later one is asked for", 'y', 6, "1 2");
        g.fails("no item", NoSuchElementException.class, () -> g.w.drop(0, 3));
        Desk most = new Desk(due, 'g', 2, 4).item(0, 1).item(0, 1).item(0, 1).item(0, 1).item(1, 0);
        most.tells("the last one is used", 'y', 2, "");
        most.fails("five are the most", IllegalStateException.class, () -> most.w.put(0, 0, 1, 0, 0, 0));
    }

    private void lastOfSixPoints() {
        Desk g = new Desk(due, 'g', 6, 1).item(1, 2, 3, 4, 5).item(1, 2, 3, 4, 5);
        g.tells("it is led to what is left", 'y', 6, "1");
        due.is("all points", 6, g.w.orbit(0, 5));
        Desk five = new Desk(due, 'g', 5, 1).item(4, 0, 1, 2, 3).item(1, 2, 3, 4, 0);
        five.tells("five points are all told", 'y', 5, "1 1 1 1");
        Desk rest = new Desk(due, 'g', 6, 4).item(5, 1, 2, 3, 4).item(0, 1, 2, 4, 3);
        rest.tells("the last one goes to 0", 'n', 2, "1 0");
    }

    private void shortestOfItems() {
        Desk g = new Desk(due, 'g', 3, 4).item(0, 1, 2).item(1, 0, 2);
        g.tells("the word without items", 'y', 2, "");
        g.witness("a longer one", 0, 1, 1);
        Desk same = new Desk(due, 'g', 3, 4).item(1, 0, 2).item(1, 0, 2).item(1, 0, 2);
        same.tells("of several the least row", 'y', 2, "1");
        same.witness("another one", 0, 2);
        Desk order = new Desk(due, 'g', 3, 2).item(1, 2, 0).item(1, 0, 2).item(0, 2, 1);
        order.tells("by the first one first", 'y', 6, "2 1");
        order.witness("the other way round", 2, 1, 2);
    }

    private void itemConditions() {
        Desk g = new Desk(due, 'g', 3, 1).item(2, 0, 1).item(1, 2, 0).item(2, 0, 1);
        g.tells("twice", 'y', 3, "1 1");
        g.witness("the item 0", 1, 0);
        g.witness("above the bound", 1, 2);
        g.witness("below 0", 1, -1);
        g.witness("greatest of all ints", 1, MOST);
        g.witness("least of all ints", 1, 1, LEAST);
        g.witness("once", 2, 1);
        g.witness("the empty one", 2);
        g.witness("five times", 0, 1, 1, 1, 1, 1);
    }

    private void rowConditions() {
        Desk g = new Desk(due, 'g', 3, 1).item(1, 0, 2).item(1, 2, 0);
        g.tells("two points", 'n', 3, "2 1 8 12");
        g.refutation("accepted", 0, 2, 1, 8, 12);
        g.refutation("the empty one", 1);
        g.refutation("no points", 1, 0);
        g.refutation("more points than there are", 1, 4, 1);
        g.refutation("below 0", 1, -1, 0);
        g.refutation("greatest of all ints", 1, MOST, 0);
        g.refutation("a number alone", 2, 2);
        g.refutation("one point twice", 1, 2, 0, 1, 8, 12);
        g.refutation("no point", 1, 2, 1, 3, 8, 12);
        g.refutation("no point", 1, 2, 1, 8, 12, 18);
        g.refutation("three points for two", 1, 2, 1, 8, 12, 38);
        g.refutation("no row", 1, 2, -1, 1, 8, 12);
        g.refutation("greatest of all ints", 1, 2, 1, 8, 12, MOST);
        g.refutation("least of all ints", 1, 2, LEAST, 1, 8, 12);
        g.refutation("one row twice", 1, 2, 1, 1, 8, 12);
        g.refutation("not rising", 1, 2, 1, 12, 8);
        g.refutation("that of the points itself is missing", 2, 2, 8, 12);
        g.refutation("one is led to none of them", 3, 2, 1, 8);
        g.refutation("what is asked is one of them", 4, 2, 1, 2, 6, 8, 12, 13);
        g.refutation("one point", 4, 1, 0, 1, 2);
        g.bound(0);
        g.refutation("nothing is used", 0, 2, 1, 8, 12);
        g.refutation("nothing is used", 0, 1, 0);
        g.refutation("no point for one", 1, 1, 0, 3);
        g.refutation("two points for one", 1, 1, 0, 6);
    }

    private void rowsOfAllPoints() {
        Desk g = new Desk(due, 'g', 2, 4).item(1, 0);
        g.refutation("all points", 0, 2, 1);
        g.refutation("both rows", 4, 2, 1, 6);
        g.refutation("one more than there are", 1, 3, 8);
        Desk six = new Desk(due, 'g', 6, 0).item(0, 1, 2, 3, 5);
        six.tells("five points tell", 'n', 1, "5 310");
        six.refutation("six points tell", 0, 6, 1865);
        six.refutation("four do not", 4, 4, 51);
    }

    private void orbits() {
        Desk g = new Desk(due, 'g', 4, 1).item(3, 2, 1, 0).item(1, 0, 2, 3).item(0, 1, 3, 2);
        due.is("two", 2, g.w.orbit(0, 0));
        due.is("itself", 1, g.w.orbit(0, 3));
        g.bound(2);
        due.is("two", 2, g.w.orbit(0, 3));
        g.fails("no point", IllegalArgumentException.class, () -> g.w.orbit(0, 4));
        g.fails("no point", IllegalArgumentException.class, () -> g.w.orbit(0, -1));
    }

    private void wordWithoutLetters() {
        Desk e = new Desk(due, 'w', 1, 0);
        e.tells("1 and 1 if there is no item", 'y', 1, "1");
        e.witness("one number", 0, 1);
        e.witness("the empty one", 1);
        e.refutation("the empty one", 2);
        e.bound(7).tells("no steps", 'y', 1, "1");
        e.item(1, 1).item(1, 2).tells("noughts are put in", 'y', 8, "1");
        e.bound(0).tells("they do not come", 'y', 1, "1");
    }

    private void moreLettersThanTheBound() {
        Desk both = new Desk(due, 'w', 1, 1).item(5, 5);
        both.tells("none leads, though it is the same", 'n', 0, "");
        both.witness("a word that is too long is none of a row", 1, 5);
        both.bound(2).tells("as many as the bound", 'y', 1, "5");
        Desk second = new Desk(due, 'w', 1, 1).item(2, 4).item(2, 3);
        second.tells("the second one", 'n', 2, "2 3");
        second.bound(2).tells("there is no way, though", 'n', 2, "2 3");
        Desk first = new Desk(due, 'w', 1, 1).item(4, 2).item(2, 3);
        first.tells("the first one", 'n', 0, "");
        first.bound(2).tells("no more", 'n', 4, "4 5 6 7");
        Desk seven = new Desk(due, 'w', 1, 7).item(255, 128).item(2, 3);
        due.is("seven letters", 'y', seven.w.answer(0));
        due.is("all of seven letters", 128, seven.w.number(0));
        due.is("seven steps", 8, seven.w.length(0));
        seven.bound(6).tells("one more than the bound", 'n', 0, "");
        Desk between = new Desk(due, 'w', 1, 1).item(2, 3).item(2, 5).item(5, 3);
        between.tells("words between must not be longer", 'n', 1, "2");
        between.bound(2).tells("two letters", 'y', 3, "2 5 3");
    }

    private void atBothEnds() {
        Desk e = new Desk(due, 'w', 1, 2).item(3, 6).item(1, 2);
        e.tells("behind the last letter", 'y', 3, "3 6");
        e.w.change(0, 0, 3, 5, 0, 0, 0);
        e.tells("ahead of the first letter", 'y', 3, "3 5");
        e.w.change(0, 0, 7, 13, 0, 0, 0);
        e.bound(3).tells("between two letters", 'y', 4, "7 13");
        e.w.change(0, 0, 13, 7, 0, 0, 0);
        e.tells("and taken out again", 'y', 4, "13 7");
        Desk over = new Desk(due, 'w', 1, 3).item(8, 10).item(4, 6);
        over.tells("the last two of three", 'y', 4, "8 10");
        over.w.change(0, 0, 8, 12, 0, 0, 0);
        over.tells("the first two of three", 'y', 4, "8 12");
        Desk last = new Desk(due, 'w', 1, 3).item(8, 9).item(4, 5);
        last.tells("the last two of three", 'y', 4, "8 9");
    }

    private void stepsToItself() {
        Desk e = new Desk(due, 'w', 1, 2).item(2, 2).item(2, 2);
        e.tells("one number if they are the same", 'y', 1, "2");
        e.witness("a step to itself", 0, 2, 2);
        e.w.change(0, 1, 3, 3, 0, 0, 0);
        e.witness("which does not stand in it", 2, 2, 2);
        e.w.drop(0, 1);
        e.witness("there are no steps", 2, 2, 2);
    }

    private void leastOfTheShortest() {
        Desk e = new Desk(due, 'w', 1, 2).item(4, 7).item(2, 3);
        e.tells("by the less one", 'y', 4, "4 5 7");
        e.witness("by the other one", 0, 4, 6, 7);
        e.witness("a longer one", 0, 4, 5, 4, 6, 7);
    }

    private void stepConditions() {
        Desk e = new Desk(due, 'w', 1, 1).item(2, 3).item(2, 3);
        e.tells("one step", 'y', 2, "2 3");
        e.witness("there and back", 0, 2, 3, 2, 3);
        e.witness("the empty one", 1);
        e.witness("just the first one", 1, 2);
        e.witness("the other way round", 1, 3, 2);
        e.witness("another first one", 1, 1, 2, 3);
        e.witness("another last one", 1, 2, 3, 1);
        e.witness("no word", 1, 2, 0, 3);
        e.witness("below 0", 1, 2, -2, 3);
        e.witness("too long a word", 1, 2, 4, 3);
        e.witness("greatest of all ints", 1, 2, MOST, 3);
        e.witness("least of all ints", 1, 2, LEAST, 3);
        e.witness("no step", 2, 2, 1, 3);
        e.witness("no step to itself", 2, 2, 2, 3);
        e.bound(0);
        e.witness("both are too long", 1, 2, 3);
        e.bound(7);
        e.witness("a word of seven letters", 2, 2, 255, 3);
        e.witness("a word of eight letters", 1, 2, 256, 3);
    }

    private void closureConditions() {
        Desk e = new Desk(due, 'w', 1, 1).item(2, 1).item(2, 3);
        e.tells("two words", 'n', 2, "2 3");
        e.refutation("accepted", 0, 2, 3);
        e.refutation("no word", 1, 0, 2, 3);
        e.refutation("below 0", 1, -1, 2, 3);
        e.refutation("too long a word", 1, 2, 3, 4);
        e.refutation("greatest of all ints", 1, 2, 3, MOST);
        e.refutation("least of all ints", 1, LEAST, 2, 3);
        e.refutation("one twice", 1, 2, 2, 3);
        e.refutation("not rising", 1, 3, 2);
        e.refutation("the empty one", 2);
        e.refutation("without the first one", 2, 3);
        e.refutation("with the second one", 2, 1, 2, 3);
        e.refutation("a step leads out", 3, 2);
        e.bound(2);
        e.refutation("no step leads to these", 0, 2, 3);
        e.refutation("steps from others", 3, 2, 3, 4);
        e.refutation("more than is needed", 0, 2, 3, 4, 5, 6, 7);
    }

    private void closureOfNone() {
        Desk e = new Desk(due, 'w', 1, 1).item(4, 1).item(2, 3);
        e.tells("the first one is too long", 'n', 0, "");
        e.refutation("the empty one", 0);
        e.refutation("others that hang together", 0, 2, 3);
        e.refutation("a step leads out", 3, 2);
        e.refutation("the second one", 2, 1);
        e.refutation("the first one is too long for it", 1, 4);
        Desk second = new Desk(due, 'w', 1, 0).item(1, 2);
        second.tells("the second one is too long", 'n', 1, "1");
        second.refutation("the empty one", 2);
    }

    private void itemsOfWords() {
        Desk e = new Desk(due, 'w', 1, 7).item(128, 255);
        e.fails("more than seven letters", IllegalArgumentException.class, () -> e.w.change(0, 0, 256, 1, 0, 0, 0));
        e.fails("no word", IllegalArgumentException.class, () -> e.w.change(0, 0, 1, 0, 0, 0, 0));
        e.item(16, 31).item(31, 16);
        e.fails("more than four letters", IllegalArgumentException.class, () -> e.w.put(0, 32, 1, 0, 0, 0));
        e.fails("more than four letters", IllegalArgumentException.class, () -> e.w.change(0, 2, 1, 32, 0, 0, 0));
        e.w.drop(0, 0);
        e.tells("the later one is what is asked", 'y', 2, "16 31");
        due.is("of seven letters again", 2, e.w.change(0, 0, 255, 128, 0, 0, 0));
        e.item(1, 1).item(1, 1).item(1, 1).item(1, 1);
        e.fails("six are the most", IllegalStateException.class, () -> e.w.put(0, 1, 1, 0, 0, 0));
    }

    private void distances() {
        Desk e = new Desk(due, 'w', 1, 7).item(1, 1).item(2, 3);
        due.is("the same", 0, e.w.distance(0, 1, 1));
        due.is("the last word", 0, e.w.distance(0, 255, 255));
        due.is("all seven letters", 7, e.w.distance(0, 128, 255));
        due.is("and back", 7, e.w.distance(0, 255, 128));
        e.fails("other words", NoSuchElementException.class, () -> e.w.distance(0, 255, 127));
        e.fails("0", IllegalArgumentException.class, () -> e.w.distance(0, 0, 255));
        e.fails("256", IllegalArgumentException.class, () -> e.w.distance(0, 255, 256));
        e.bound(6);
        e.fails("the same, but too long", NoSuchElementException.class, () -> e.w.distance(0, 255, 255));
        e.fails("too long", NoSuchElementException.class, () -> e.w.distance(0, 128, 64));
        due.is("as many letters as the bound", 6, e.w.distance(0, 64, 127));
        e.item(1, 2);
        due.is("from as many letters as the bound", 1, e.w.distance(0, 64, 32));
        e.fails("from one letter more", NoSuchElementException.class, () -> e.w.distance(0, 128, 64));
        e.fails("to one letter more", NoSuchElementException.class, () -> e.w.distance(0, 64, 128));
        e.fails("256 is told first", IllegalArgumentException.class, () -> e.w.distance(0, 255, 256));
    }
}
