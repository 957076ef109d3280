import java.util.NoSuchElementException;

/** Promises 9 and 44: carrying over and bringing back. */
public final class CarryTest {
    private static final Class<?> NOT_SO = UnsupportedOperationException.class;
    private final Due due;

    private CarryTest(Due due) {
        this.due = due;
    }

    public static void main(String[] args) {
        Due due = new Due();
        CarryTest test = new CarryTest(due);
        test.pairingsToFlows();
        test.flowsToInequalities();
        test.pairingsToClauses();
        test.exceptions();
        test.bringing();
        test.bringsNotBack();
        test.bringsAtOnce();
        due.end();
    }

    private static String items(Witnessworks w, int entry) {
        StringBuilder text = new StringBuilder();
        for (int item = 0; item < w.items(entry); item++) {
            for (int index = 0; index < 5; index++) {
                text.append(w.item(entry, item, index)).append(index < 4 ? " " : "; ");
            }
        }
        return text.toString();
    }

    private void fails(String what, Witnessworks w, Class<?> want, Due.Call call) {
        String before = Due.book(w) + Due.typed(w);
        due.fails(what, want, call);
        due.is("nothing changed by " + what, before, Due.book(w) + Due.typed(w));
    }

    private void pairingsToFlows() {
        Witnessworks w = new Witnessworks();
        int m = w.open('m', 4, 1);
        w.put(m, 3, 0, 0, 0, 0);
        w.put(m, 1, 3, 0, 0, 0);
        int f = w.carry(m, 'f');
        due.is("behind", 1, f);
        due.is("kind", 'f', w.kindOf(f));
        due.is("size", 6, w.sizeOf(f));
        due.is("bound", 2, w.boundOf(f));
        due.is("items", "0 1 1 0 0; 0 2 1 0 0; 0 3 1 0 0; 4 5 1 0 0; 1 4 1 0 0; 2 4 1 0 0; ", items(w, f));
        w.setBound(m, 9);
        due.is("at least 0", 0, w.boundOf(w.carry(m, 'f')));
        w.put(m, 0, 1, 0, 0, 0);
        fails("three in a round", w, NOT_SO, () -> w.carry(m, 'f'));
        int six = w.open('m', 6, 0);
        fails("too many nodes", w, NOT_SO, () -> w.carry(six, 'f'));
        int five = w.open('m', 5, 0);
        for (int i = 0; i < 6; i++) {
            w.put(five, i % 2, 2 + i % 3, 0, 0, 0);
            if (i == 4) {
                due.is("ten items", 10, w.items(w.carry(five, 'f')));
            }
        }
        fails("eleven items", w, NOT_SO, () -> w.carry(five, 'f'));
    }

    private void flowsToInequalities() {
        Witnessworks w = new Witnessworks();
        int f = w.open('f', 3, 2);
        fails("no items", w, NOT_SO, () -> w.carry(f, 'l'));
        w.put(f, 0, 1, 3, 8, 8);
        w.put(f, 1, 2, 4, 8, 8);
        w.put(f, 2, 0, 5, 8, 8);
        int l = w.carry(f, 'l');
        due.is("size", 3, w.sizeOf(l));
        due.is("bound", 40, w.boundOf(l));
        due.is("items", "1 0 0 0 3; 0 1 0 0 4; 0 0 1 0 5; 1 -1 0 0 0; -1 1 0 0 0; 1 0 -1 0 2; -1 0 1 0 -2; ",
                items(w, l));
        due.is("the same answer", w.answer(f), w.answer(l));
        w.put(f, 0, 2, 1, 0, 0);
        due.is("four items", 4, w.sizeOf(w.carry(f, 'l')));
        w.put(f, 0, 2, 1, 0, 0);
        fails("five items", w, NOT_SO, () -> w.carry(f, 'l'));
        int wide = w.open('f', 7, 0);
        w.put(wide, 0, 1, 3, 0, 0);
        fails("thirteen inequalities", w, NOT_SO, () -> w.carry(wide, 'l'));
        int less = w.open('f', 6, 0);
        w.put(less, 0, 1, 3, 0, 0);
        w.put(less, 0, 1, 3, 0, 0);
        due.is("twelve inequalities", 12, w.items(w.carry(less, 'l')));
        w.put(less, 0, 1, 3, 0, 0);
        fails("thirteen inequalities", w, NOT_SO, () -> w.carry(less, 'l'));
    }

    private void pairingsToClauses() {
        Witnessworks w = new Witnessworks();
        int m = w.open('m', 4, 0);
        fails("no edges", w, NOT_SO, () -> w.carry(m, 's'));
        w.put(m, 0, 1, 0, 0, 0);
        w.put(m, 1, 2, 0, 0, 0);
        fails("a node without edges", w, NOT_SO, () -> w.carry(m, 's'));
        w.put(m, 2, 3, 0, 0, 0);
        int s = w.carry(m, 's');
        due.is("size", 3, w.sizeOf(s));
        due.is("bound", 3, w.boundOf(s));
        due.is("items", "1 0 0 0 0; 1 2 0 0 0; 2 3 0 0 0; 3 0 0 0 0; -1 -2 0 0 0; -2 -3 0 0 0; ", items(w, s));
        w.setBound(m, 1);
        fails("the bound 0 alone", w, NOT_SO, () -> w.carry(m, 's'));
        int star = w.open('m', 5, 0);
        for (int v = 1; v < 5; v++) {
            w.put(star, 0, v, 0, 0, 0);
        }
        fails("more than three edges", w, NOT_SO, () -> w.carry(star, 's'));
        w.drop(star, 3);
        fails("a node without edges", w, NOT_SO, () -> w.carry(star, 's'));
        int three = w.open('m', 4, 0);
        for (int v = 1; v < 4; v++) {
            w.put(three, 0, v, 0, 0, 0);
        }
        due.is("three edges", "1 2 3 0 0; 1 0 0 0 0; 2 0 0 0 0; 3 0 0 0 0; -1 -2 0 0 0; -1 -3 0 0 0; -2 -3 0 0 0; ",
                items(w, w.carry(three, 's')));
        int ring = w.open('m', 6, 0);
        for (int v = 0; v < 6; v++) {
            w.put(ring, v, (v + 1) % 6, 0, 0, 0);
        }
        due.is("twelve clauses", 12, w.items(w.carry(ring, 's')));
        int more = w.open('m', 5, 0);
        for (int v = 0; v < 5; v++) {
            w.put(more, v, (v + 1) % 5, 0, 0, 0);
        }
        w.put(more, 0, 2, 0, 0, 0);
        fails("fourteen clauses", w, NOT_SO, () -> w.carry(more, 's'));
    }

    private void exceptions() {
        Witnessworks w = new Witnessworks();
        int m = w.open('m', 2, 0);
        w.put(m, 0, 1, 0, 0, 0);
        fails("no entry", w, IndexOutOfBoundsException.class, () -> w.carry(1, 'q'));
        fails("no entry", w, IndexOutOfBoundsException.class, () -> w.carry(-1, 'q'));
        fails("no kind", w, IllegalArgumentException.class, () -> w.carry(m, 'q'));
        fails("to itself", w, NOT_SO, () -> w.carry(m, 'm'));
        fails("to no such one", w, NOT_SO, () -> w.carry(m, 'l'));
        for (int i = 1; i < 12; i++) {
            w.carry(m, i % 2 == 0 ? 'f' : 's');
        }
        fails("full", w, IllegalStateException.class, () -> w.carry(m, 'f'));
        fails("not so first", w, NOT_SO, () -> w.carry(m, 'x'));
        due.is("sound", true, w.isSound());
        due.is("brought though the book is full", 2, w.bring(2));
    }

    private void bringing() {
        Witnessworks w = new Witnessworks();
        int m = w.open('m', 4, 0);
        w.put(m, 0, 3, 0, 0, 0);
        w.put(m, 1, 2, 0, 0, 0);
        int f = w.carry(m, 'f');
        int s = w.carry(m, 's');
        due.is("pairs", 4, w.bring(f));
        due.is("typed", "3 2 1 0 ", Due.typed(w));
        due.is("accepted", 0, w.check(m, true));
        w.wipe();
        due.is("pairs", 4, w.bring(s));
        due.is("typed", "3 2 1 0 ", Due.typed(w));
        int path = w.open('m', 3, 0);
        w.put(path, 0, 1, 0, 0, 0);
        w.put(path, 2, 1, 0, 0, 0);
        int bar = w.carry(path, 'f');
        due.is("refuted", 'n', w.answer(bar));
        due.is("nodes", 1, w.bring(bar));
        due.is("typed", "1 ", Due.typed(w));
        due.is("accepted", 0, w.check(path, false));
        int fork = w.open('m', 3, 0);
        w.put(fork, 0, 1, 0, 0, 0);
        w.put(fork, 2, 0, 0, 0, 0);
        due.is("nodes", 1, w.bring(w.carry(fork, 'f')));
        due.is("typed", "0 ", Due.typed(w));
        int flow = w.open('f', 2, 2);
        w.put(flow, 0, 1, 1, 0, 0);
        w.put(flow, 0, 1, 2, 0, 0);
        int l = w.carry(flow, 'l');
        due.is("unknowns", 2, w.bring(l));
        due.is("typed", "0 2 ", Due.typed(w));
        due.is("accepted", 0, w.check(flow, true));
    }

    /** No other call comes between, by which the one that it came from would be looked at. */
    private void bringsAtOnce() {
        Witnessworks w = new Witnessworks();
        int m = w.open('m', 2, 0);
        w.put(m, 0, 1, 0, 0, 0);
        int f = w.carry(m, 'f');
        w.setBound(m, 2);
        due.fails("another bound", NOT_SO, () -> w.bring(f));
        w.undo();
        due.is("as it was", 2, w.bring(f));
        int n = w.open('n', 1, 4);
        w.lean(m, n, -2);
        due.is("leans on what is the same", 2, w.bring(f));
        w.setBound(n, 5);
        due.fails("leans on what is another one", NOT_SO, () -> w.bring(f));
    }

    private void bringsNotBack() {
        Witnessworks w = new Witnessworks();
        int m = w.open('m', 2, 0);
        w.put(m, 0, 1, 0, 0, 0);
        int f = w.carry(m, 'f');
        int s = w.carry(m, 's');
        int l = w.carry(f, 'l');
        w.type(77);
        fails("no entry", w, IndexOutOfBoundsException.class, () -> w.bring(4));
        fails("came from none", w, NOT_SO, () -> w.bring(m));
        w.setBound(m, 2);
        fails("the bound would be another one", w, NOT_SO, () -> w.bring(f));
        fails("cannot be carried over", w, NOT_SO, () -> w.bring(s));
        w.setBound(f, 0);
        due.is("as it would be now", 2, w.bring(f));
        due.is("typed", "0 1 ", Due.typed(w));
        w.setBound(m, 0);
        w.setBound(f, 1);
        w.change(f, 2, 1, 2, 1, 0, 1);
        fails("all five numbers", w, NOT_SO, () -> w.bring(f));
        due.is("but what counts for the next is the same", 3, w.bring(l));
        w.change(m, 0, 1, 0, 9, 9, 9);
        due.is("the edge the other way", 2, w.bring(s));
        w.drop(m, 0);
        fails("no edge", w, NOT_SO, () -> w.bring(s));
        int g = w.open('m', 3, 0);
        w.put(g, 0, 1, 0, 0, 0);
        w.put(g, 1, 2, 0, 0, 0);
        int t = w.carry(g, 's');
        due.is("refuted", 'n', w.answer(t));
        fails("nothing by such a refutation", w, NOT_SO, () -> w.bring(t));
        int h = w.open('f', 2, 1);
        w.put(h, 0, 1, 0, 0, 0);
        int k = w.carry(h, 'l');
        due.is("refuted", 'n', w.answer(k));
        fails("nothing by such a refutation", w, NOT_SO, () -> w.bring(k));
        due.fails("leans on nothing", NoSuchElementException.class, () -> w.leansOn(k));
    }
}
