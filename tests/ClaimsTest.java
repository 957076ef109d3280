import java.util.NoSuchElementException;

/** Promises 38 to 43 and 45 to 49: claims. */
public final class ClaimsTest {
    private static final Class<?> NONE = NoSuchElementException.class;
    private static final Class<?> NO_ENTRY = IndexOutOfBoundsException.class;
    private final Due due;

    private ClaimsTest(Due due) {
        this.due = due;
    }

    public static void main(String[] args) {
        Due due = new Due();
        ClaimsTest test = new ClaimsTest(due);
        test.persons();
        test.typing();
        test.borrowing();
        test.checking();
        test.claiming();
        test.mostClaims();
        due.end();
    }

    private void fails(String what, Witnessworks w, Class<?> want, Due.Call call) {
        String before = Due.book(w) + Due.typed(w);
        due.fails(what, want, call);
        due.is("nothing changed by " + what, before, Due.book(w) + Due.typed(w));
    }

    private void persons() {
        Witnessworks w = new Witnessworks();
        due.fails("no person", NO_ENTRY, () -> w.points(0));
        for (int i = 0; i < 6; i++) {
            due.is("person", i, w.person());
            due.is("points", 0, w.points(i));
        }
        due.fails("six", IllegalStateException.class, () -> w.person());
        due.fails("no person", NO_ENTRY, () -> w.points(6));
        due.fails("no person", NO_ENTRY, () -> w.points(-1));
    }

    private void typing() {
        Witnessworks w = new Witnessworks();
        due.is("one", 1, w.type(Integer.MIN_VALUE));
        due.is("three", 3, w.typeMore(2, 5, 6, 7, 8, 9, 10, 11, 12));
        due.is("typed", Integer.MIN_VALUE + " 5 6 ", Due.typed(w));
        due.is("all", 11, w.typeMore(8, 1, 2, 3, 4, 5, 6, 7, 8));
        due.is("typed", Integer.MIN_VALUE + " 5 6 1 2 3 4 5 6 7 8 ", Due.typed(w));
        fails("many", w, IllegalArgumentException.class, () -> w.typeMore(0, 1, 2, 3, 4, 5, 6, 7, 8));
        fails("many", w, IllegalArgumentException.class, () -> w.typeMore(9, 1, 2, 3, 4, 5, 6, 7, 8));
        due.is("altered", 5, w.alter(1, Integer.MAX_VALUE));
        due.is("altered", Integer.MAX_VALUE, w.alter(1, 0));
        fails("no place", w, NONE, () -> w.alter(11, 0));
        fails("no place", w, NONE, () -> w.alter(-1, 0));
        for (int i = 11; i < 63; i++) {
            w.type(i);
        }
        fails("too many", w, IllegalStateException.class, () -> w.typeMore(2, 1, 2, 3, 4, 5, 6, 7, 8));
        fails("range first", w, IllegalArgumentException.class, () -> w.typeMore(9, 1, 2, 3, 4, 5, 6, 7, 8));
        due.is("the last one", 64, w.typeMore(1, 1, 2, 3, 4, 5, 6, 7, 8));
        fails("full", w, IllegalStateException.class, () -> w.type(0));
        fails("full", w, IllegalStateException.class, () -> w.typeMore(1, 1, 2, 3, 4, 5, 6, 7, 8));
        due.is("wiped", 64, w.wipe());
        due.is("empty", 0, w.wipe());
        due.is("again", 1, w.type(3));
    }

    private void borrowing() {
        Witnessworks w = new Witnessworks();
        int n = w.open('n', 1, 7);
        w.type(99);
        due.is("borrowed", 6, w.borrow(n));
        due.is("it is the typed row", "7 3 2 3 2 2 ", Due.typed(w));
        fails("no entry", w, NO_ENTRY, () -> w.borrow(1));
        fails("no entry", w, NO_ENTRY, () -> w.borrow(-1));
        w.alter(0, 5);
        due.is("the kept row stays", 7, w.sign(n, 0));
        int words = w.open('w', 1, 6);
        w.put(words, 1, 255, 0, 0, 0);
        w.put(words, 1, 2, 0, 0, 0);
        w.put(words, 1, 3, 0, 0, 0);
        due.is("all words", 127, w.length(words));
        fails("too long", w, UnsupportedOperationException.class, () -> w.borrow(words));
        w.setBound(words, 5);
        due.is("63", 63, w.borrow(words));
        int six = w.open('w', 1, 6);
        w.put(six, 64, 1, 0, 0, 0);
        w.put(six, 2, 3, 0, 0, 0);
        due.is("just 64", 64, w.borrow(six));
        due.is("accepted", 0, w.check(six, false));
    }

    private void checking() {
        Witnessworks w = new Witnessworks();
        int n = w.open('n', 1, 15);
        due.is("empty", 1, w.check(n, false));
        w.typeMore(2, 5, 3, 0, 0, 0, 0, 0, 0);
        due.is("not the kept one", 0, w.check(n, false));
        due.is("no witness", 1, w.check(n, true));
        w.setBound(n, 16);
        due.is("as it is now", 2, w.check(n, false));
        w.alter(0, 65536);
        w.alter(1, 65536);
        due.is("exact", 2, w.check(n, false));
        fails("no entry", w, NO_ENTRY, () -> w.check(1, true));
        fails("no entry", w, NO_ENTRY, () -> w.check(-1, true));
        int l = w.open('l', 2, 40);
        w.put(l, 9, 9, 0, 0, -60);
        w.wipe();
        w.typeMore(3, 1, Integer.MAX_VALUE, Integer.MAX_VALUE, 0, 0, 0, 0, 0);
        due.is("exact", 3, w.check(l, true));
    }

    private void claiming() {
        Witnessworks w = new Witnessworks();
        int n = w.open('n', 1, 15);
        int a = w.open('a', 8, 7);
        w.person();
        w.person();
        fails("no person", w, NO_ENTRY, () -> w.claim(2, n, false));
        fails("no person", w, NO_ENTRY, () -> w.claim(-1, n, false));
        fails("no entry", w, NO_ENTRY, () -> w.claim(0, 2, false));
        due.is("not accepted", 1, w.claim(0, n, false));
        due.is("no points", 0, w.points(0));
        due.is("none stands", 0, w.standing());
        w.typeMore(2, 5, 3, 0, 0, 0, 0, 0, 0);
        due.is("accepted", 0, w.claim(1, n, false));
        due.is("a point", 1, w.points(1));
        due.is("again", 0, w.claim(0, n, false));
        due.is("no point", 0, w.points(0));
        due.is("one stands", 1, w.standing());
        w.alter(0, 3);
        w.alter(1, 5);
        due.is("another one", 0, w.claim(0, n, false));
        due.is("a point", 1, w.points(0));
        due.is("two stand", 2, w.standing());
        due.is("person", 1, w.standingOf(0, 'p'));
        due.is("entry", n, w.standingOf(0, 'e'));
        due.is("sense", 0, w.standingOf(0, 'w'));
        due.is("length", 2, w.standingOf(1, 'l'));
        w.alter(0, 7);
        due.is("its row was kept", 2, w.standing());
        w.borrow(a);
        due.is("witness", 0, w.claim(1, a, true));
        due.is("sense", 1, w.standingOf(2, 'w'));
        due.is("length", 8, w.standingOf(2, 'l'));
        due.fails("no claim", NONE, () -> w.standingOf(3, '?'));
        due.fails("no claim", NONE, () -> w.standingOf(-1, 'p'));
        due.fails("no letter", IllegalArgumentException.class, () -> w.standingOf(0, '?'));
        shorter();
    }

    /** A row of weights cannot be shorter, but the leaves of a tree can. */
    private void shorter() {
        Witnessworks w = new Witnessworks();
        int s = w.open('s', 2, 2);
        w.put(s, 1, 1, 2, 0, 0);
        w.put(s, 1, -2, 0, 0, 0);
        w.put(s, -1, 0, 0, 0, 0);
        w.person();
        due.is("kept", 3, w.length(s));
        w.borrow(s);
        w.claim(0, s, false);
        due.is("one", 1, w.points(0));
        int g = w.open('g', 3, 1);
        w.put(g, 1, 0, 2, 0, 0);
        w.put(g, 1, 2, 0, 0, 0);
        due.is("kept", "2 1 8 12", Due.row(w, g));
        int m = w.open('m', 7, 0);
        w.put(m, 0, 1, 0, 0, 0);
        w.put(m, 2, 1, 0, 0, 0);
        w.put(m, 3, 4, 0, 0, 0);
        w.put(m, 5, 4, 0, 0, 0);
        due.is("kept", "1 4", Due.row(w, m));
        w.wipe();
        w.type(1);
        due.is("accepted", 0, w.claim(0, m, false));
        due.is("three more", 4, w.points(0));
        w.wipe();
        due.is("the empty one", 0, w.claim(0, m, false));
        due.is("three more", 7, w.points(0));
    }

    private void mostClaims() {
        Witnessworks w = new Witnessworks();
        int d = w.open('d', 1, 0);
        int n = w.open('n', 1, 5);
        w.person();
        w.type(0);
        for (int i = 0; i < 16; i++) {
            w.alter(0, i);
            due.is("accepted", 0, w.claim(0, d, true));
        }
        due.is("points", 16, w.points(0));
        w.alter(0, 16);
        fails("sixteen stand", w, IllegalStateException.class, () -> w.claim(0, d, true));
        due.is("no point", 16, w.points(0));
        w.alter(0, 3);
        due.is("the same one", 0, w.claim(0, d, true));
        due.is("not accepted", 1, w.claim(0, n, true));
        fails("no entry first", w, NO_ENTRY, () -> w.claim(0, 2, true));
        w.put(d, 1, 0, 0, 0, 0);
        due.is("others fall", 15, w.settle());
        due.is("one stands", 1, w.standing());
        w.drop(d, 0);
        due.is("claimed again", 0, w.claim(0, d, true));
        due.is("a point again", 17, w.points(0));
    }
}
