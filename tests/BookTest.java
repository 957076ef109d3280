import java.util.NoSuchElementException;

/** Promises 2 to 10: what changes the book. */
public final class BookTest {
    private static final Class<?> NO_ENTRY = IndexOutOfBoundsException.class;
    private static final Class<?> BAD = IllegalArgumentException.class;
    private static final Class<?> FULL = IllegalStateException.class;
    private static final Class<?> NOT_SO = UnsupportedOperationException.class;
    private static final Class<?> NONE = NoSuchElementException.class;

    private final Due due;

    private BookTest(Due due) {
        this.due = due;
    }

    public static void main(String[] args) {
        Due due = new Due();
        BookTest test = new BookTest(due);
        test.open();
        test.sizesAndBounds();
        test.put();
        test.itemsOfKinds();
        test.mostItems();
        test.change();
        test.drop();
        test.setBound();
        test.lean();
        test.leanOutOfRange();
        test.stand();
        test.undo();
        test.undoMany();
        test.undoClaims();
        due.end();
    }

    /** The call must throw this, and leave all as it was. */
    private void fails(String what, Witnessworks w, Class<?> want, Due.Call call) {
        String before = Due.book(w) + Due.typed(w);
        due.fails(what, want, call);
        due.is("nothing changed by " + what, before, Due.book(w) + Due.typed(w));
    }

    private void open() {
        Witnessworks w = new Witnessworks();
        due.is("first", 0, w.open('m', 9, 9));
        due.is("second", 1, w.open('x', 7, 6));
        due.is("kind", 'x', w.kindOf(1));
        fails("no kind", w, BAD, () -> w.open('q', 1, 1));
        fails("no kind", w, BAD, () -> w.open('M', 1, 1));
        fails("no kind", w, BAD, () -> w.open((char) 0, 1, 1));
        fails("no kind", w, BAD, () -> w.open((char) 65535, 1, 1));
        for (int i = 2; i < 12; i++) {
            due.is("next", i, w.open('n', 1, 2));
        }
        fails("full", w, FULL, () -> w.open('n', 1, 2));
        fails("no kind first", w, BAD, () -> w.open('q', 1, 2));
        fails("no size first", w, BAD, () -> w.open('n', 2, 2));
    }

    private void sizesAndBounds() {
        String kinds = "mfplsdnrgwax";
        int[] leastSize = {1, 2, 1, 1, 1, 1, 1, 1, 2, 1, 1, 1};
        int[] mostSize = {9, 7, 7, 4, 6, 4, 1, 1, 6, 1, 8, 7};
        int[] leastBound = {0, 0, 0, 0, 0, -40, 2, 0, 0, 0, 0, 0};
        int[] mostBound = {9, 60, 11, 40, 6, 40, 9999, 3, 4, 7, 7, 6};
        for (int i = 0; i < 12; i++) {
            Witnessworks w = new Witnessworks();
            char kind = kinds.charAt(i);
            int low = leastSize[i];
            int high = mostSize[i];
            int from = leastBound[i];
            int to = mostBound[i];
            due.is("least " + kind, 0, w.open(kind, low, from));
            due.is("most " + kind, 1, w.open(kind, high, to));
            fails("small " + kind, w, BAD, () -> w.open(kind, low - 1, from));
            fails("big " + kind, w, BAD, () -> w.open(kind, high + 1, from));
            fails("bound " + kind, w, BAD, () -> w.open(kind, low, from - 1));
            fails("bound " + kind, w, BAD, () -> w.open(kind, low, to + 1));
            fails("bound told " + kind, w, BAD, () -> w.setBound(0, from - 1));
            fails("bound told " + kind, w, BAD, () -> w.setBound(0, to + 1));
            due.is("bound told " + kind, from, w.setBound(0, to));
        }
    }

    private void put() {
        Witnessworks w = new Witnessworks();
        int m = w.open('m', 3, 0);
        int f = w.open('f', 3, 0);
        due.is("one", 1, w.put(m, 0, 1, 5, 6, 7));
        due.is("kept as told", 7, w.item(m, 0, 4));
        due.is("two", 2, w.put(m, 2, 1, 0, 0, 0));
        fails("no entry", w, NO_ENTRY, () -> w.put(2, 0, 0, 0, 0, 0));
        fails("no entry", w, NO_ENTRY, () -> w.put(-1, 0, 0, 0, 0, 0));
        fails("like nodes", w, BAD, () -> w.put(m, 1, 1, 0, 0, 0));
        fails("no node", w, BAD, () -> w.put(m, 0, 3, 0, 0, 0));
        fails("no node", w, BAD, () -> w.put(m, -1, 2, 0, 0, 0));
        fails("the same two", w, NOT_SO, () -> w.put(m, 1, 0, 0, 0, 0));
        fails("the same two", w, NOT_SO, () -> w.put(m, 1, 2, 0, 0, 0));
        due.is("two from one to the same", 1, w.put(f, 0, 1, 6, 0, 0));
        due.is("two from one to the same", 2, w.put(f, 0, 1, 6, 0, 0));
        fails("too much", w, BAD, () -> w.put(f, 0, 1, 7, 0, 0));
        fails("below 0", w, BAD, () -> w.put(f, 0, 1, -1, 0, 0));
    }

    private void good(Witnessworks w, int entry, int a, int b, int c, int d, int e) {
        int many = w.items(entry);
        due.is("put " + w.kindOf(entry), many + 1, w.put(entry, a, b, c, d, e));
        w.drop(entry, many);
    }

    private void bad(Witnessworks w, int entry, int a, int b, int c, int d, int e) {
        fails("put " + w.kindOf(entry) + a + " " + b + " " + c + " " + d + " " + e, w, BAD,
                () -> w.put(entry, a, b, c, d, e));
    }

    private void itemsOfKinds() {
        Witnessworks w = new Witnessworks();
        int l = w.open('l', 2, 0);
        good(w, l, -9, 9, 100, -100, 60);
        good(w, l, 9, -9, 100, -100, -60);
        bad(w, l, 10, 0, 0, 0, 0);
        bad(w, l, 0, -10, 0, 0, 0);
        bad(w, l, 0, 0, 0, 0, 61);
        bad(w, l, 0, 0, 0, 0, -61);
        int s = w.open('s', 3, 0);
        good(w, s, 0, -3, 3, 99, 99);
        bad(w, s, 0, 0, 0, 1, 1);
        bad(w, s, 4, 0, 0, 0, 0);
        bad(w, s, 1, -4, 0, 0, 0);
        bad(w, s, 1, 0, 4, 0, 0);
        int d = w.open('d', 3, 0);
        good(w, d, -6, 6, 6, 100, 20);
        good(w, d, -6, 6, 6, 100, -20);
        bad(w, d, 7, 0, 0, 0, 0);
        bad(w, d, 0, 0, -7, 0, 0);
        bad(w, d, 0, 0, 0, 0, 21);
        bad(w, d, 0, 0, 0, 0, -21);
        int r = w.open('r', 1, 0);
        good(w, r, -7, 7, 7, -7, 999);
        bad(w, r, 8, 0, 0, 0, 0);
        bad(w, r, 0, -8, 0, 0, 0);
        bad(w, r, 0, 0, 8, 0, 0);
        bad(w, r, 0, 0, 0, 8, 0);
        int g = w.open('g', 3, 0);
        good(w, g, 2, 0, 1, 1, -5);
        bad(w, g, 2, 0, 2, 1, 1);
        bad(w, g, 3, 0, 1, 2, 4);
        bad(w, g, 0, -1, 1, 2, 4);
        int six = w.open('g', 6, 0);
        good(w, six, 5, 4, 3, 2, 1);
        bad(w, six, 5, 4, 3, 2, 5);
        bad(w, six, 0, 1, 2, 3, 6);
        int e = w.open('w', 1, 0);
        good(w, e, 255, 1, -1, 0, 0);
        bad(w, e, 256, 1, 0, 0, 0);
        bad(w, e, 1, 0, 0, 0, 0);
        w.put(e, 255, 128, 0, 0, 0);
        good(w, e, 31, 16, 0, 0, 0);
        bad(w, e, 32, 1, 0, 0, 0);
        bad(w, e, 1, 32, 0, 0, 0);
        bad(w, e, 0, 1, 0, 0, 0);
        int a = w.open('a', 2, 0);
        good(w, a, 1, 0, 1, 7, 7);
        bad(w, a, 2, 0, 0, 0, 0);
        bad(w, a, 0, -1, 0, 0, 0);
        bad(w, a, 0, 0, 2, 0, 0);
        bad(w, a, 0, 0, -1, 0, 0);
        int x = w.open('x', 2, 0);
        good(w, x, 1, 5, 1, -1, -1);
        good(w, x, 0, 0, 0, 1, 1);
        bad(w, x, 2, 0, 0, 0, 0);
        bad(w, x, 0, 6, 0, 0, 0);
        bad(w, x, 0, -1, 0, 0, 0);
        bad(w, x, 0, 0, -1, 0, 0);
        bad(w, x, 0, 0, 2, 0, 0);
        bad(w, x, 0, 0, 0, 2, 0);
        bad(w, x, 0, 0, 0, 0, -2);
        int p = w.open('p', 2, 0);
        w.put(p, 0, 1, 0, 0, 0);
        fails("the same two", w, NOT_SO, () -> w.put(p, 1, 0, 0, 0, 0));
        int n = w.open('n', 1, 2);
        fails("no items", w, FULL, () -> w.put(n, 0, 0, 0, 0, 0));
    }

    private void mostItems() {
        Witnessworks w = new Witnessworks();
        int m = w.open('m', 9, 0);
        int p = w.open('p', 7, 0);
        for (int a = 0; a < 9; a++) {
            for (int b = a + 1; b < 9; b++) {
                if (w.items(m) < 16) {
                    due.is("put", w.items(m) + 1, w.put(m, a, b, 0, 0, 0));
                }
                if (w.items(p) < 11 && b < 7) {
                    due.is("put", w.items(p) + 1, w.put(p, a, b, 0, 0, 0));
                }
            }
        }
        fails("16", w, FULL, () -> w.put(m, 6, 5, 0, 0, 0));
        fails("the same two first", w, NOT_SO, () -> w.put(m, 1, 0, 0, 0, 0));
        fails("no node first", w, BAD, () -> w.put(m, 9, 0, 0, 0, 0));
        due.is("11", 11, w.items(p));
        fails("11", w, FULL, () -> w.put(p, 6, 5, 0, 0, 0));
        String kinds = "flsdrgwax";
        int[] sizes = {2, 1, 1, 1, 1, 2, 1, 8, 3};
        int[] most = {10, 12, 12, 2, 1, 5, 6, 8, 3};
        for (int i = 0; i < kinds.length(); i++) {
            int entry = w.open(kinds.charAt(i), sizes[i], 0);
            for (int j = 0; j < most[i]; j++) {
                due.is("put", j + 1, w.put(entry, 1, kinds.charAt(i) == 'w' ? 1 : 0, 0, 0, 0));
            }
            int b = kinds.charAt(i) == 'w' ? 1 : 0;
            fails("most items of " + kinds.charAt(i), w, FULL, () -> w.put(entry, 1, b, 0, 0, 0));
        }
    }

    private void change() {
        Witnessworks w = new Witnessworks();
        int m = w.open('m', 3, 0);
        w.put(m, 0, 1, 0, 0, 0);
        w.put(m, 1, 2, 0, 0, 0);
        due.is("two others", 2, w.change(m, 0, 1, 0, 0, 0, 0));
        due.is("told anew", 1, w.item(m, 0, 0));
        due.is("none", 0, w.change(m, 0, 1, 0, 0, 0, 0));
        due.is("five", 5, w.change(m, 1, 2, 0, 7, 8, 9));
        due.is("told anew", 8, w.item(m, 1, 3));
        fails("no entry", w, NO_ENTRY, () -> w.change(1, 9, 9, 9, 0, 0, 0));
        fails("no item", w, NONE, () -> w.change(m, 2, 9, 9, 0, 0, 0));
        fails("no item", w, NONE, () -> w.change(m, -1, 9, 9, 0, 0, 0));
        fails("no node", w, BAD, () -> w.change(m, 0, 0, 3, 0, 0, 0));
        fails("like nodes", w, BAD, () -> w.change(m, 0, 2, 2, 0, 0, 0));
        fails("the same two", w, NOT_SO, () -> w.change(m, 0, 0, 2, 0, 0, 0));
        due.is("its own two", 2, w.change(m, 1, 0, 2, 7, 8, 9));
        int words = w.open('w', 1, 7);
        w.put(words, 255, 255, 0, 0, 0);
        w.put(words, 31, 1, 0, 0, 0);
        due.is("the item 0", 2, w.change(words, 0, 128, 129, 0, 0, 0));
        fails("another item", w, BAD, () -> w.change(words, 1, 32, 1, 0, 0, 0));
    }

    private void drop() {
        Witnessworks w = new Witnessworks();
        int f = w.open('f', 2, 0);
        for (int i = 0; i < 4; i++) {
            w.put(f, 0, 1, i, i, i);
        }
        fails("no item", w, NONE, () -> w.drop(f, 4));
        fails("no item", w, NONE, () -> w.drop(f, -1));
        fails("no entry", w, NO_ENTRY, () -> w.drop(1, 9));
        due.is("left", 3, w.drop(f, 1));
        due.is("the later ones", 2, w.item(f, 1, 2));
        due.is("the later ones", 3, w.item(f, 2, 4));
        due.is("left", 2, w.drop(f, 2));
        due.is("left", 1, w.drop(f, 0));
        due.is("left", 0, w.drop(f, 0));
        fails("no item", w, NONE, () -> w.drop(f, 0));
        due.is("none", 0, w.items(f));
    }

    private void setBound() {
        Witnessworks w = new Witnessworks();
        int d = w.open('d', 1, -40);
        due.is("before", -40, w.setBound(d, 40));
        due.is("now", 40, w.boundOf(d));
        fails("no entry", w, NO_ENTRY, () -> w.setBound(1, 99));
        fails("no bound", w, BAD, () -> w.setBound(d, 41));
        int n = w.open('n', 1, 9);
        w.lean(d, n, 1);
        due.is("what it leans on", 4, w.setBound(d, 7));
        fails("leans no more", w, NONE, () -> w.leansOn(d));
        due.is("told", 7, w.boundOf(d));
    }

    private void lean() {
        Witnessworks w = new Witnessworks();
        int m = w.open('m', 4, 3);
        int n = w.open('n', 1, 35);
        int f = w.open('f', 2, 0);
        due.is("bound then", 7, w.lean(m, n, 2));
        due.is("leans", n, w.leansOn(m));
        w.setBound(n, 3);
        due.is("goes along", 5, w.boundOf(m));
        w.setBound(n, 97);
        due.is("the greatest", 9, w.boundOf(m));
        due.is("the least", 2, w.lean(n, f, -20));
        due.is("by others", 4, w.boundOf(m));
        fails("itself", w, NOT_SO, () -> w.lean(m, m, 0));
        fails("round", w, NOT_SO, () -> w.lean(f, m, 0));
        fails("round", w, NOT_SO, () -> w.lean(f, n, 0));
        fails("out of range first", w, BAD, () -> w.lean(m, m, 21));
        fails("no entry first", w, NO_ENTRY, () -> w.lean(m, 3, 21));
        fails("no entry first", w, NO_ENTRY, () -> w.lean(-1, m, 21));
        due.is("something else", 0, w.lean(m, f, 0));
        due.is("leans", f, w.leansOn(m));
        Witnessworks low = new Witnessworks();
        low.open('n', 1, 35);
        low.open('m', 4, 0);
        due.is("on the entry 0", 5, low.lean(1, 0, 0));
        due.is("on the entry 0", 0, low.leansOn(1));
        low.setBound(0, 4);
        due.is("goes along", 2, low.boundOf(1));
        low.setBound(0, 9);
        due.is("goes along at once", 'n', low.answer(1));
        due.is("and stands", 3, low.stand(1));
        w.stand(n);
        due.is("no more round", 5, w.lean(f, n, 3));
        w.put(m, 0, 1, 0, 0, 0);
        due.is("its question leans too", 'n', w.answer(m));
        due.is("bound then", 2, w.lean(m, f, 2));
        due.is("its question leans too", 'y', w.answer(m));
    }

    private void leanOutOfRange() {
        Witnessworks w = new Witnessworks();
        int m = w.open('m', 4, 3);
        int n = w.open('n', 1, 5);
        fails("plus", w, BAD, () -> w.lean(m, n, 21));
        fails("plus", w, BAD, () -> w.lean(m, n, -21));
        due.is("most", 9, w.lean(m, n, 20));
        due.is("least", 0, w.lean(m, n, -20));
    }

    private void stand() {
        Witnessworks w = new Witnessworks();
        int m = w.open('m', 4, 3);
        int n = w.open('n', 1, 5);
        fails("on nothing", w, NOT_SO, () -> w.stand(m));
        fails("no entry", w, NO_ENTRY, () -> w.stand(2));
        w.lean(m, n, 1);
        due.is("as it was", 6, w.stand(m));
        w.setBound(n, 7);
        due.is("stays", 6, w.boundOf(m));
        fails("on nothing", w, NONE, () -> w.leansOn(m));
    }

    private void undo() {
        Witnessworks w = new Witnessworks();
        fails("none", w, NONE, () -> w.undo());
        String[] books = new String[12];
        int at = 0;
        books[at++] = Due.book(w);
        w.open('m', 2, 0);
        books[at++] = Due.book(w);
        w.open('m', 3, 1);
        books[at++] = Due.book(w);
        w.put(0, 0, 1, 0, 0, 0);
        books[at++] = Due.book(w);
        w.change(0, 0, 1, 0, 3, 0, 0);
        books[at++] = Due.book(w);
        w.lean(0, 1, 1);
        books[at++] = Due.book(w);
        w.setBound(0, 0);
        books[at++] = Due.book(w);
        w.lean(0, 1, -1);
        books[at++] = Due.book(w);
        w.stand(0);
        books[at++] = Due.book(w);
        w.carry(0, 'f');
        books[at++] = Due.book(w);
        w.drop(0, 0);
        String letters = "dyslblcpoo";
        for (int i = 0; i < letters.length(); i++) {
            due.is("undone", letters.charAt(i), w.undo());
            due.is("as ahead of " + letters.charAt(i), books[--at], Due.book(w));
        }
        fails("none", w, NONE, () -> w.undo());
    }

    private void undoMany() {
        Witnessworks w = new Witnessworks();
        int n = w.open('n', 1, 2);
        for (int i = 3; i < 33; i++) {
            w.setBound(n, i);
        }
        for (int i = 0; i < 24; i++) {
            due.is("undone", 'b', w.undo());
        }
        fails("just 24", w, NONE, () -> w.undo());
        due.is("the oldest", 8, w.boundOf(n));
        for (int i = 0; i < 20; i++) {
            w.setBound(n, 100 + i);
        }
        for (int i = 0; i < 15; i++) {
            w.undo();
        }
        w.setBound(n, 50);
        fails("throws", w, BAD, () -> w.setBound(n, 1));
        due.is("a call that threw is none", 'b', w.undo());
        due.is("before", 104, w.boundOf(n));
        due.is("no change is a change", 104, w.setBound(n, 104));
        due.is("undone", 'b', w.undo());
        due.is("undone", 'b', w.undo());
        due.is("before", 103, w.boundOf(n));
    }

    private void undoClaims() {
        Witnessworks w = new Witnessworks();
        int n = w.open('n', 1, 5);
        int m = w.open('m', 1, 1);
        w.person();
        w.borrow(n);
        w.claim(0, n, true);
        w.borrow(m);
        w.claim(0, m, true);
        w.settle();
        due.is("settled", true, w.isSettled(m));
        due.is("open", 'o', w.undo());
        due.is("one stands", 1, w.standing());
        due.is("that of the other one", n, w.standingOf(0, 'e'));
        due.is("points stay", 2, w.points(0));
        due.is("no erratum", 0, w.errata());
        due.is("the typed row stays", "0 ", Due.typed(w));
        w.open('m', 1, 1);
        due.is("forgotten", false, w.isSettled(m));
        w.setBound(m, 0);
        due.is("not compared", 0, w.settle());
        w.setBound(n, 4);
        due.is("errata", 2, w.settle());
        w.undo();
        due.is("settlings stay", 2, w.errata());
        due.is("what was settled stays", false, w.isSettled(n));
        due.is("fallen claims stay fallen", 0, w.standing());
        due.is("again", 1, w.settle());
        due.is("number of the settling", 4, w.erratum(2, 's'));
    }
}
