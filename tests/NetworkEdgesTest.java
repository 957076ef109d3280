import java.util.NoSuchElementException;

/** The boundary cases of parts 2 and 3: pairings and flows. */
public final class NetworkEdgesTest {
    private final Due due;

    private NetworkEdgesTest(Due due) {
        this.due = due;
    }

    public static void main(String[] args) {
        Due due = new Due();
        NetworkEdgesTest test = new NetworkEdgesTest(due);
        test.fewestNodes();
        test.mostNodes();
        test.pairingConditions();
        test.leastPairing();
        test.parts();
        test.nodeConditions();
        test.leastFlows();
        test.greatestFlows();
        test.lettingNothing();
        test.endsOfFlows();
        test.severalFromOneToTheSame();
        test.flowConditions();
        test.barsThatLetTheLeast();
        test.barConditions();
        test.narrowItems();
        due.end();
    }

    private void fewestNodes() {
        Desk one = new Desk(due, 'm', 1, 0);
        one.tells("one node is alone", 'n', 1, "");
        one.refutation("the empty one", 0);
        one.refutation("nothing is left", 2, 0);
        one.witness("one more than the bound is alone", 4, 0);
        one.bound(1).tells("as many as the bound", 'y', 1, "0");
        one.refutation("just as many parts as the bound", 2);
        one.bound(9).tells("the greatest bound", 'y', 1, "0");
        one.fails("no edge can be", IllegalArgumentException.class, () -> one.w.put(0, 0, 0, 0, 0, 0));
        Desk two = new Desk(due, 'm', 2, 1);
        two.tells("one more alone than the bound", 'n', 2, "");
        two.bound(2).tells("as many alone as the bound", 'y', 2, "0 1");
        two.bound(0).item(1, 0).tells("none alone", 'y', 0, "1 0");
    }

    private void mostNodes() {
        Desk star = new Desk(due, 'm', 9, 6);
        for (int v = 1; v < 9; v++) {
            star.item(0, v);
        }
        star.tells("one more alone than the bound", 'n', 7, "0");
        star.bound(7).tells("as many alone as the bound", 'y', 7, "1 0 2 3 4 5 6 7 8");
        Desk full = new Desk(due, 'm', 9, 1);
        for (int a = 0; a < 4; a++) {
            for (int b = 5; b < 9; b++) {
                full.item(a, b);
            }
        }
        full.tells("sixteen edges, and a node without any", 'y', 1, "5 6 7 8 4 0 1 2 3");
        full.bound(0).tells("an odd number of nodes", 'n', 1, "");
        due.is("sixteen", 16, full.w.items(0));
    }

    private void pairingConditions() {
        Desk m = new Desk(due, 'm', 3, 1).item(0, 1);
        m.witness("accepted", 0, 1, 0, 2);
        m.witness("the empty one", 1);
        m.witness("one too few", 1, 1, 0);
        m.witness("one too many", 1, 1, 0, 2, 2);
        m.witness("below the first node", 1, -1, 0, 2);
        m.witness("above the last node", 1, 1, 0, 3);
        m.witness("least of all ints", 1, 1, 0, Integer.MIN_VALUE);
        m.witness("greatest of all ints", 1, 1, 0, Integer.MAX_VALUE);
        m.witness("not that node again", 2, 1, 2, 0);
        m.witness("not that node again", 2, 1, 1, 2);
        m.witness("no edge", 3, 2, 1, 0);
        m.witness("more alone than the bound", 4, 0, 1, 2);
        m.bound(0);
        m.witness("no edge is told ahead of those alone", 3, 2, 1, 0);
        m.witness("the bound is passed by one", 4, 1, 0, 2);
        m.bound(3);
        m.witness("not a best one", 0, 0, 1, 2);
    }

    private void leastPairing() {
        Desk path = new Desk(due, 'm', 3, 1).item(0, 1).item(1, 2);
        path.tells("the node 0 alone is less", 'y', 1, "0 2 1");
        Desk ring = new Desk(due, 'm', 4, 4).item(2, 3).item(3, 0).item(0, 1).item(1, 2);
        ring.tells("the best ones alone, whatever the bound", 'y', 0, "1 0 3 2");
    }

    private void parts() {
        Desk m = new Desk(due, 'm', 6, 9).item(0, 1).item(2, 3).item(3, 4);
        due.is("parts", "ccdadd", parts(m.w, 6));
        m.fails("no node", IllegalArgumentException.class, () -> m.w.part(0, 6));
        m.fails("no node", IllegalArgumentException.class, () -> m.w.part(0, -1));
        due.is("three in a round", "ddd", parts(new Desk(due, 'm', 3, 0).item(0, 1).item(1, 2).item(2, 0).w, 3));
        due.is("one node", "d", parts(new Desk(due, 'm', 1, 0).w, 1));
    }

    private static String parts(Witnessworks w, int many) {
        StringBuilder text = new StringBuilder();
        for (int node = 0; node < many; node++) {
            text.append(w.part(0, node));
        }
        return text.toString();
    }

    private void nodeConditions() {
        Desk path = new Desk(due, 'm', 3, 0).item(0, 1).item(1, 2);
        path.tells("refuted", 'n', 1, "1");
        path.refutation("accepted", 0, 1);
        path.refutation("the empty one, by one part of three nodes", 0);
        path.refutation("no part with an odd number", 2, 0);
        path.refutation("all nodes", 2, 0, 1, 2);
        path.refutation("the same one again", 1, 1, 1);
        path.refutation("not rising", 1, 2, 1);
        path.refutation("above the last node", 1, 3);
        path.refutation("below the first node", 1, -1);
        path.refutation("least of all ints", 1, Integer.MIN_VALUE);
        path.refutation("greatest of all ints", 1, Integer.MAX_VALUE);
        path.bound(1);
        path.refutation("just as many parts as both together", 2, 1);
        Desk three = new Desk(due, 'm', 3, 0).item(0, 1).item(1, 2).item(2, 0);
        three.tells("none of a", 'n', 1, "");
    }

    private void leastFlows() {
        Desk f = new Desk(due, 'f', 2, 0);
        f.tells("no items, nothing flows", 'y', 0, "");
        f.witness("the empty one", 0);
        f.witness("one too many", 1, 0);
        f.bound(1).tells("one more than flows", 'n', 0, "0");
        f.bound(60).tells("the greatest bound", 'n', 0, "0");
    }

    private void greatestFlows() {
        Desk f = new Desk(due, 'f', 2, 60);
        for (int i = 0; i < 9; i++) {
            f.item(0, 1, 6);
        }
        f.item(0, 1, 5).tells("one less than the bound", 'n', 59, "0");
        f.bound(59).tells("as much as the bound", 'y', 59, "6 6 6 6 6 6 6 6 6 5");
        f.w.change(0, 9, 0, 1, 6, 0, 0);
        f.bound(60).tells("the greatest amount there is", 'y', 60, "6 6 6 6 6 6 6 6 6 6");
        f.fails("ten items are the most", IllegalStateException.class, () -> f.w.put(0, 0, 1, 0, 0, 0));
        Desk seven = new Desk(due, 'f', 7, 1);
        for (int v = 0; v < 6; v++) {
            seven.item(v, v + 1, 1);
        }
        seven.tells("the last of seven nodes", 'y', 1, "1 1 1 1 1 1");
        seven.bound(2).tells("just the first one is in all bars", 'n', 1, "0");
    }

    private void lettingNothing() {
        Desk f = new Desk(due, 'f', 2, 0).item(0, 1, 0);
        f.tells("nothing is let", 'y', 0, "0");
        due.is("but narrow", true, f.w.isNarrow(0, 0));
        f.bound(1).tells("nothing is let", 'n', 0, "0");
        f.refutation("it lets less", 0, 0);
    }

    private void endsOfFlows() {
        Desk f = new Desk(due, 'f', 2, 1).item(0, 1, 3).item(1, 0, 2);
        f.tells("what comes to the first node is taken off", 'y', 3, "1 0");
        f.witness("round by both", 0, 3, 2);
        f.witness("one too much", 4, 3, 1);
        f.bound(3).tells("all", 'y', 3, "3 0");
        f.bound(4).tells("a bar lets what leads out alone", 'n', 3, "0");
        Desk round = new Desk(due, 'f', 3, 0).item(0, 1, 2).item(1, 0, 2);
        round.tells("no amount", 'y', 0, "0 0");
        round.witness("a round has the amount 0", 0, 2, 2);
        round.bound(1).tells("all nodes but the last one are reached", 'n', 0, "0 1");
    }

    private void severalFromOneToTheSame() {
        Desk f = new Desk(due, 'f', 2, 2).item(0, 1, 1).item(0, 1, 2);
        f.tells("the least row", 'y', 3, "0 2");
        f.bound(3).tells("all", 'y', 3, "1 2");
    }

    private void flowConditions() {
        Desk f = new Desk(due, 'f', 3, 1).item(0, 1, 2).item(1, 2, 2);
        f.tells("one through", 'y', 2, "1 1");
        f.witness("accepted", 0, 1, 1);
        f.witness("the empty one", 1);
        f.witness("one too few", 1, 1);
        f.witness("one too many", 1, 1, 1, 0);
        f.witness("below 0", 2, -1, 1);
        f.witness("more than it lets", 2, 1, 3);
        f.witness("least of all ints", 2, Integer.MIN_VALUE, 1);
        f.witness("greatest of all ints", 2, 1, Integer.MAX_VALUE);
        f.witness("more goes than comes", 3, 1, 2);
        f.witness("more comes than goes", 3, 2, 1);
        f.witness("another amount", 4, 2, 2);
        f.witness("another amount", 4, 0, 0);
        f.bound(2);
        f.witness("all that they let", 0, 2, 2);
        f.witness("what is let is looked at first", 2, 3, 0);
    }

    private void barsThatLetTheLeast() {
        Desk late = new Desk(due, 'f', 3, 2).item(0, 1, 5).item(1, 2, 1);
        late.tells("the node 1 is in all of them", 'n', 1, "0 1");
        Desk both = new Desk(due, 'f', 3, 2).item(0, 1, 1).item(1, 2, 1);
        both.tells("the node 1 is not in all of them", 'n', 1, "0");
    }

    private void barConditions() {
        Desk f = new Desk(due, 'f', 4, 2).item(0, 1, 1).item(1, 2, 1).item(2, 3, 1);
        f.refutation("accepted", 0, 0);
        f.refutation("another bar", 0, 0, 1);
        f.refutation("all but the last one", 0, 0, 1, 2);
        f.refutation("it lets as much as the bound", 2, 0, 2);
        f.refutation("the empty one", 1);
        f.refutation("without the first one", 1, 1);
        f.refutation("with the last one", 1, 0, 3);
        f.refutation("above the last one", 1, 0, 4);
        f.refutation("below the first one", 1, -1, 0);
        f.refutation("the same one again", 1, 0, 0);
        f.refutation("not rising", 1, 0, 2, 1);
        f.refutation("greatest of all ints", 1, 0, Integer.MAX_VALUE);
        f.refutation("least of all ints", 1, Integer.MIN_VALUE, 0);
        f.bound(1);
        f.refutation("it lets as much as the bound", 2, 0);
        Desk two = new Desk(due, 'f', 2, 1);
        two.refutation("the last of two", 1, 0, 1);
        two.refutation("the first of two", 0, 0);
    }

    private void narrowItems() {
        Desk f = new Desk(due, 'f', 3, 0).item(0, 1, 6).item(1, 2, 5).item(0, 2, 6).item(2, 0, 6);
        due.is("more than is needed", false, f.w.isNarrow(0, 0));
        due.is("one more would go", true, f.w.isNarrow(0, 1));
        due.is("though it lets the most that can be told", true, f.w.isNarrow(0, 2));
        due.is("back to the first one", false, f.w.isNarrow(0, 3));
        f.fails("no item", NoSuchElementException.class, () -> f.w.isNarrow(0, 4));
        Desk row = new Desk(due, 'f', 3, 0).item(0, 1, 1).item(1, 2, 1);
        due.is("both would have to let more", false, row.w.isNarrow(0, 0) || row.w.isNarrow(0, 1));
    }
}
