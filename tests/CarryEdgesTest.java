/** The boundary cases of part 11: what can just be carried over or brought back, and what can just not. */
public final class CarryEdgesTest {
    private static final Class<?> NOT_SO = UnsupportedOperationException.class;
    private final Due due;

    private CarryEdgesTest(Due due) {
        this.due = due;
    }

    public static void main(String[] args) {
        Due due = new Due();
        CarryEdgesTest test = new CarryEdgesTest(due);
        test.halfRoundedUp();
        test.fewestNodes();
        test.mostNodesAndItems();
        test.twoSides();
        test.boundAsItIsNow();
        test.flowsOfOneToFourItems();
        test.flowsOfManyNodes();
        test.boundsOfFlows();
        test.boundNoughtAlone();
        test.oneToSixEdges();
        test.oneToThreeEdgesOfANode();
        test.twelveClauses();
        test.noOtherWay();
        test.leansOnNothing();
        test.twelveEntries();
        test.bringsPairs();
        test.bringsNodes();
        test.bringsUpperNumbers();
        test.bringsTruths();
        test.allFiveNumbers();
        test.cameFromOneThatIsGone();
        due.end();
    }

    private static String items(Witnessworks w, int entry) {
        StringBuilder text = new StringBuilder();
        for (int item = 0; item < w.items(entry); item++) {
            for (int index = 0; index < 5; index++) {
                text.append(w.item(entry, item, index)).append(index < 4 ? " " : "; ");
            }
        }
        return text.toString();
    }

    private static int boundOver(int size, int bound) {
        Witnessworks w = new Witnessworks();
        w.open('m', size, bound);
        return w.boundOf(w.carry(0, 'f'));
    }

    private void halfRoundedUp() {
        due.is("five less none", 3, boundOver(5, 0));
        due.is("five less one", 2, boundOver(5, 1));
        due.is("five less two", 2, boundOver(5, 2));
        due.is("five less three", 1, boundOver(5, 3));
        due.is("five less four", 1, boundOver(5, 4));
        due.is("five less five", 0, boundOver(5, 5));
        due.is("five less six", 0, boundOver(5, 6));
        due.is("five less nine", 0, boundOver(5, 9));
        due.is("one less none", 1, boundOver(1, 0));
        due.is("one less one", 0, boundOver(1, 1));
        due.is("one less nine", 0, boundOver(1, 9));
    }

    private void fewestNodes() {
        Desk m = new Desk(due, 'm', 1, 0);
        due.is("one node", 1, m.w.carry(0, 'f'));
        due.is("three nodes", 3, m.w.sizeOf(1));
        due.is("from the first one to it", "0 1 1 0 0; ", items(m.w, 1));
        due.is("nothing flows", 'n', m.w.answer(1));
        due.is("sound", true, m.w.isSound());
    }

    private void mostNodesAndItems() {
        Desk five = new Desk(due, 'm', 5, 0);
        due.is("seven nodes", 7, five.w.sizeOf(five.w.carry(0, 'f')));
        Desk six = new Desk(due, 'm', 6, 0);
        six.fails("eight nodes", NOT_SO, () -> six.w.carry(0, 'f'));
        five.item(0, 2).item(0, 3).item(0, 4).item(1, 2).item(1, 3);
        due.is("ten items", 10, five.w.items(five.w.carry(0, 'f')));
        five.item(1, 4);
        five.fails("eleven items", NOT_SO, () -> five.w.carry(0, 'f'));
        five.w.drop(0, 5);
        due.is("ten items", 3, five.w.carry(0, 'f'));
    }

    private void twoSides() {
        Desk m = new Desk(due, 'm', 5, 1).item(4, 3).item(2, 1);
        m.w.carry(0, 'f');
        due.is("the lowest one of each part is on the left side",
                "0 1 1 0 0; 0 2 1 0 0; 3 6 1 0 0; 0 4 1 0 0; 5 6 1 0 0; 4 5 1 0 0; 2 3 1 0 0; ", items(m.w, 1));
        m.item(2, 4);
        m.w.carry(0, 'f');
        due.is("in one part just the lowest one is",
                "0 1 1 0 0; 0 2 1 0 0; 3 6 1 0 0; 4 6 1 0 0; 0 5 1 0 0; 5 4 1 0 0; 2 3 1 0 0; 5 3 1 0 0; ",
                items(m.w, 2));
        m.w.change(0, 2, 1, 3, 0, 0, 0);
        due.is("a path is on two sides", 3, m.w.carry(0, 'f'));
        m.item(2, 3);
        m.fails("three in a round", NOT_SO, () -> m.w.carry(0, 'f'));
        Desk ring = new Desk(due, 'm', 5, 0).item(0, 1).item(1, 2).item(2, 3).item(3, 4).item(4, 0);
        ring.fails("five in a round", NOT_SO, () -> ring.w.carry(0, 'f'));
        ring.w.change(0, 4, 0, 3, 0, 0, 0);
        due.is("four in a round", 1, ring.w.carry(0, 'f'));
    }

    private void boundAsItIsNow() {
        Witnessworks w = new Witnessworks();
        w.open('m', 4, 9);
        w.open('n', 1, 2);
        w.lean(0, 1, -2);
        due.is("leaning", 2, w.boundOf(w.carry(0, 'f')));
        w.setBound(1, 3);
        due.is("leaning", 2, w.boundOf(w.carry(0, 'f')));
        w.setBound(1, 4);
        due.is("leaning", 2, w.boundOf(w.carry(0, 'f')));
        w.setBound(1, 5);
        due.is("leaning", 1, w.boundOf(w.carry(0, 'f')));
        w.open('m', 2, 9);
        w.put(6, 0, 1, 0, 0, 0);
        w.lean(6, 1, -5);
        due.is("the bound 0 by leaning", 7, w.carry(6, 's'));
        w.setBound(1, 7);
        due.fails("the bound 2 by leaning", NOT_SO, () -> w.carry(6, 's'));
    }

    private void flowsOfOneToFourItems() {
        Desk f = new Desk(due, 'f', 2, 0);
        f.fails("no items", NOT_SO, () -> f.w.carry(0, 'l'));
        for (int many = 1; many <= 4; many++) {
            f.item(0, 1, many, 9, 9);
            int l = f.w.carry(0, 'l');
            due.is("as many unknowns", many, f.w.sizeOf(l));
            due.is("the new bound", 40, f.w.boundOf(l));
            due.is("items", many + 2, f.w.items(l));
        }
        due.is("numbers that are not told are 0",
                "1 0 0 0 1; 0 1 0 0 2; 0 0 1 0 3; 0 0 0 1 4; 1 1 1 1 0; -1 -1 -1 -1 0; ", items(f.w, 4));
        f.item(0, 1, 0);
        f.fails("five items", NOT_SO, () -> f.w.carry(0, 'l'));
        due.is("sound", true, f.w.isSound());
    }

    private void flowsOfManyNodes() {
        for (int many = 1; many <= 4; many++) {
            for (int size = 2; size <= 7; size++) {
                Desk f = new Desk(due, 'f', size, 1);
                for (int i = 0; i < many; i++) {
                    f.item(0, size - 1, 1);
                }
                int all = many + 2 * (size - 2) + 2;
                if (all <= 12) {
                    due.is("inequalities", all, f.w.items(f.w.carry(0, 'l')));
                } else {
                    f.fails(all + " inequalities", NOT_SO, () -> f.w.carry(0, 'l'));
                }
            }
        }
        Desk none = new Desk(due, 'f', 4, 0).item(0, 3, 1);
        none.w.carry(0, 'l');
        due.is("nodes without items", "1 0 0 0 1; 0 0 0 0 0; 0 0 0 0 0; 0 0 0 0 0; 0 0 0 0 0; 1 0 0 0 0; -1 0 0 0 0; ",
                items(none.w, 1));
    }

    private void boundsOfFlows() {
        Desk f = new Desk(due, 'f', 2, 60).item(0, 1, 6).item(1, 0, 6);
        f.w.carry(0, 'l');
        due.is("the greatest bound", "1 0 0 0 6; 0 1 0 0 6; 1 -1 0 0 60; -1 1 0 0 -60; ", items(f.w, 1));
        due.is("refuted", "nn", "" + f.w.answer(0) + f.w.answer(1));
        f.bound(6);
        f.w.carry(0, 'l');
        due.is("as much as flows", "yy", "" + f.w.answer(0) + f.w.answer(2));
        due.is("sound", true, f.w.isSound());
    }

    private void boundNoughtAlone() {
        Desk m = new Desk(due, 'm', 2, 0).item(0, 1);
        due.is("the bound 0", 1, m.w.carry(0, 's'));
        for (int bound = 1; bound <= 9; bound++) {
            m.bound(bound);
            m.fails("the bound " + bound, NOT_SO, () -> m.w.carry(0, 's'));
        }
    }

    private void oneToSixEdges() {
        Desk none = new Desk(due, 'm', 1, 0);
        none.fails("no edges", NOT_SO, () -> none.w.carry(0, 's'));
        Desk one = new Desk(due, 'm', 2, 0).item(1, 0, 5, 6, 7);
        one.w.carry(0, 's');
        due.is("one truth", 1, one.w.sizeOf(1));
        due.is("bound like the size", 1, one.w.boundOf(1));
        due.is("clauses", "1 0 0 0 0; 1 0 0 0 0; ", items(one.w, 1));
        Desk six = new Desk(due, 'm', 6, 0);
        for (int v = 0; v < 6; v++) {
            six.item(v, (v + 1) % 6);
        }
        six.w.carry(0, 's');
        due.is("six truths", 6, six.w.sizeOf(1));
        due.is("bound like the size", 6, six.w.boundOf(1));
        due.is("edges rising, then two and two", "1 6 0 0 0; 1 2 0 0 0; 2 3 0 0 0; 3 4 0 0 0; 4 5 0 0 0; 5 6 0 0 0; "
                + "-1 -2 0 0 0; -1 -6 0 0 0; -2 -3 0 0 0; -3 -4 0 0 0; -4 -5 0 0 0; -5 -6 0 0 0; ", items(six.w, 1));
        due.is("the same answer", six.w.answer(0), six.w.answer(1));
        six.item(0, 3);
        six.fails("seven edges", NOT_SO, () -> six.w.carry(0, 's'));
    }

    private void oneToThreeEdgesOfANode() {
        Desk star = new Desk(due, 'm', 4, 0).item(3, 0).item(3, 1);
        star.fails("a node without edges", NOT_SO, () -> star.w.carry(0, 's'));
        star.item(2, 3);
        star.w.carry(0, 's');
        due.is("three edges", "1 0 0 0 0; 2 0 0 0 0; 3 0 0 0 0; 1 2 3 0 0; -1 -2 0 0 0; -1 -3 0 0 0; -2 -3 0 0 0; ",
                items(star.w, 1));
        Desk four = new Desk(due, 'm', 5, 0).item(4, 0).item(4, 1).item(4, 2).item(4, 3);
        four.fails("four edges", NOT_SO, () -> four.w.carry(0, 's'));
    }

    private void twelveClauses() {
        Desk more = new Desk(due, 'm', 6, 0).item(0, 1).item(1, 2).item(2, 3).item(3, 4).item(4, 0).item(0, 5);
        more.fails("thirteen clauses", NOT_SO, () -> more.w.carry(0, 's'));
        Desk just = new Desk(due, 'm', 4, 0).item(0, 1).item(1, 2).item(2, 3).item(3, 0).item(0, 2);
        due.is("twelve clauses", 12, just.w.items(just.w.carry(0, 's')));
    }

    private void noOtherWay() {
        String kinds = "mfplsdnrgwax";
        Witnessworks w = new Witnessworks();
        for (int i = 0; i < 11; i++) {
            char kind = kinds.charAt(i);
            w.open(kind, kind == 'n' || kind == 'r' || kind == 'w' ? 1 : 2, kind == 'm' ? 0 : 2);
        }
        w.put(0, 0, 1, 0, 0, 0);
        w.put(1, 0, 1, 2, 0, 0);
        for (int i = 0; i < 11; i++) {
            for (int j = 0; j < 12; j++) {
                int entry = i;
                char kind = kinds.charAt(j);
                String way = kinds.charAt(i) + " to " + kind;
                if (way.equals("m to f") || way.equals("m to s") || way.equals("f to l")) {
                    due.is(way, 11, w.carry(entry, kind));
                    w.undo();
                } else {
                    due.fails(way, NOT_SO, () -> w.carry(entry, kind));
                }
            }
        }
    }

    private void leansOnNothing() {
        Witnessworks w = new Witnessworks();
        w.open('m', 2, 0);
        w.open('n', 1, 2);
        w.lean(0, 1, -1);
        int f = w.carry(0, 'f');
        due.fails("it leans on nothing", java.util.NoSuchElementException.class, () -> w.leansOn(f));
        due.is("the bound", 1, w.boundOf(f));
        w.setBound(1, 3);
        due.is("it stays", 1, w.boundOf(f));
        due.is("it can lean", 0, w.lean(f, 0, -20));
        due.is("the old one cannot lean on it then", 0, w.cameFrom(f));
        due.fails("not round", NOT_SO, () -> w.lean(0, f, 0));
    }

    private void twelveEntries() {
        Witnessworks w = new Witnessworks();
        w.open('m', 2, 0);
        w.put(0, 0, 1, 0, 0, 0);
        for (int i = 1; i < 12; i++) {
            due.is("behind all others", i, w.carry(0, "fs".charAt(i % 2)));
        }
        due.fails("twelve", IllegalStateException.class, () -> w.carry(0, 'f'));
        due.fails("no way, and twelve", NOT_SO, () -> w.carry(1, 'l'));
        for (int i = 1; i < 12; i++) {
            due.is("brought back however many there are", 2, w.bring(i));
        }
        due.is("undone", 'y', w.undo());
        due.is("one less", 11, w.entries());
        due.is("again", 11, w.carry(0, 's'));
    }

    private void bringsPairs() {
        Desk m = new Desk(due, 'm', 3, 1).item(2, 1).item(0, 1);
        m.w.carry(0, 'f');
        due.is("as many as nodes", 3, m.w.bring(1));
        due.is("accepted", 0, m.w.check(0, true));
        due.is("by the least flow", "0 2 1 ", Due.typed(m.w));
        due.is("the kept one", "0 2 1", Due.row(m.w, 0));
        m.bound(3);
        due.is("nobody must go", 2, m.w.carry(0, 'f'));
        due.is("as many as nodes", 3, m.w.bring(2));
        due.is("all alone", "0 1 2 ", Due.typed(m.w));
    }

    private void bringsNodes() {
        Desk m = new Desk(due, 'm', 1, 0);
        m.w.carry(0, 'f');
        m.w.type(7);
        due.is("none", 0, m.w.bring(1));
        due.is("accepted", 0, m.w.check(0, false));
        Desk star = new Desk(due, 'm', 4, 0).item(0, 3).item(1, 3).item(2, 3);
        star.w.carry(0, 'f');
        due.is("refuted", "0 1 2 3 4", Due.row(star.w, 1));
        due.is("one of the right side that it has", 1, star.w.bring(1));
        due.is("that one", "3 ", Due.typed(star.w));
        due.is("accepted", 0, star.w.check(0, false));
        Desk other = new Desk(due, 'm', 4, 0).item(3, 0).item(1, 0).item(2, 0);
        other.w.carry(0, 'f');
        due.is("one of the left side that it has not", 1, other.w.bring(1));
        due.is("that one", "0 ", Due.typed(other.w));
        due.is("accepted", 0, other.w.check(0, false));
    }

    private void bringsUpperNumbers() {
        Desk f = new Desk(due, 'f', 2, 0).item(0, 1, 0);
        f.w.carry(0, 'l');
        due.is("one number", 1, f.w.bring(1));
        due.is("nought", "0 ", Due.typed(f.w));
        f.bound(1);
        f.fails("it would be another one", NOT_SO, () -> f.w.bring(1));
        f.w.carry(0, 'l');
        f.fails("nothing by a refutation", NOT_SO, () -> f.w.bring(2));
        f.w.change(0, 0, 0, 1, 6, 0, 0);
        f.bound(6);
        f.w.carry(0, 'l');
        due.is("one number", 1, f.w.bring(3));
        due.is("six", "6 ", Due.typed(f.w));
        due.is("accepted", 0, f.w.check(0, true));
    }

    private void bringsTruths() {
        Desk m = new Desk(due, 'm', 4, 0).item(0, 2).item(1, 3).item(0, 1).item(2, 3);
        m.w.carry(0, 's');
        due.is("the least row", "0 0 1 1", Due.row(m.w, 1));
        due.is("as many as nodes", 4, m.w.bring(1));
        due.is("by the items 2 and 3", "1 0 3 2 ", Due.typed(m.w));
        due.is("accepted", 0, m.w.check(0, true));
        Desk odd = new Desk(due, 'm', 3, 0).item(0, 1).item(1, 2);
        odd.w.carry(0, 's');
        odd.fails("nothing by a refutation", NOT_SO, () -> odd.w.bring(1));
    }

    private void allFiveNumbers() {
        Desk m = new Desk(due, 'm', 2, 0).item(0, 1);
        m.w.carry(0, 'f');
        int[] as = {0, 1, 1, 0, 0};
        for (int index = 0; index < 5; index++) {
            int[] other = as.clone();
            other[index] = index == 0 ? 2 : index == 1 ? 3 : index == 2 ? 0 : 1;
            m.w.change(1, 0, other[0], other[1], other[2], other[3], other[4]);
            m.fails("number " + index, NOT_SO, () -> m.w.bring(1));
            due.is("sound all the same", true, m.w.isSound());
            m.w.undo();
            due.is("as it was", 2, m.w.bring(1));
        }
        m.w.put(1, 0, 1, 0, 0, 0);
        m.fails("an item more", NOT_SO, () -> m.w.bring(1));
        m.w.drop(1, 3);
        due.is("as it was", 2, m.w.bring(1));
        m.w.setBound(1, 0);
        m.fails("another bound", NOT_SO, () -> m.w.bring(1));
        m.w.setBound(0, 2);
        due.is("as it would be now", 2, m.w.bring(1));
        m.w.setBound(0, 9);
        due.is("the same bound", 2, m.w.bring(1));
    }

    private void cameFromOneThatIsGone() {
        Witnessworks w = new Witnessworks();
        w.open('m', 2, 0);
        w.carry(0, 'f');
        due.is("came", 0, w.cameFrom(1));
        w.undo();
        due.is("opened at its place", 1, w.open('f', 4, 1));
        due.fails("it came from none", java.util.NoSuchElementException.class, () -> w.cameFrom(1));
        due.fails("nothing to bring", NOT_SO, () -> w.bring(1));
    }
}
