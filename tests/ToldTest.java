import java.util.NoSuchElementException;

/** Promises 11 to 23: what is told, and answers. */
public final class ToldTest {
    private static final Class<?> NO_ENTRY = IndexOutOfBoundsException.class;

    public static void main(String[] args) {
        Due due = new Due();
        told(due);
        leaning(due);
        answers(due);
        noEntry(due);
        due.end();
    }

    private static void told(Due due) {
        Witnessworks w = new Witnessworks();
        String kinds = "mfplsdnrgwax";
        for (int i = 0; i < 12; i++) {
            due.is("entries", i, w.entries());
            w.open(kinds.charAt(i), "fg".indexOf(kinds.charAt(i)) >= 0 ? 2 : 1, 2);
        }
        due.is("entries", 12, w.entries());
        for (int i = 0; i < 12; i++) {
            due.is("kind", kinds.charAt(i), w.kindOf(i));
            due.is("size", "fg".indexOf(kinds.charAt(i)) >= 0 ? 2 : 1, w.sizeOf(i));
            due.is("bound", 2, w.boundOf(i));
            due.is("items", 0, w.items(i));
        }
        w.put(1, 1, 0, 3, Integer.MAX_VALUE, Integer.MIN_VALUE);
        int[] item = {1, 0, 3, Integer.MAX_VALUE, Integer.MIN_VALUE};
        for (int i = 0; i < 5; i++) {
            due.is("number " + i, item[i], w.item(1, 0, i));
        }
        due.is("items", 1, w.items(1));
        due.fails("no entry", NO_ENTRY, () -> w.item(12, 9, 9));
        due.fails("no entry", NO_ENTRY, () -> w.item(-1, 9, 9));
        due.fails("no item", NoSuchElementException.class, () -> w.item(1, 1, 9));
        due.fails("no item", NoSuchElementException.class, () -> w.item(1, -1, 9));
        due.fails("no index", IllegalArgumentException.class, () -> w.item(1, 0, 5));
        due.fails("no index", IllegalArgumentException.class, () -> w.item(1, 0, -1));
    }

    private static void leaning(Due due) {
        Witnessworks w = new Witnessworks();
        int m = w.open('m', 2, 0);
        int n = w.open('n', 1, 2);
        due.fails("leans on nothing", NoSuchElementException.class, () -> w.leansOn(m));
        due.fails("came from none", NoSuchElementException.class, () -> w.cameFrom(m));
        w.lean(m, n, -2);
        due.is("leans", n, w.leansOn(m));
        int f = w.carry(m, 'f');
        due.is("came", m, w.cameFrom(f));
        due.fails("the new one leans on nothing", NoSuchElementException.class, () -> w.leansOn(f));
        due.fails("no entry", NO_ENTRY, () -> w.leansOn(3));
        due.fails("no entry", NO_ENTRY, () -> w.cameFrom(3));
    }

    private static void answers(Due due) {
        Witnessworks w = new Witnessworks();
        int n = w.open('n', 1, 7);
        due.is("prime", 'y', w.answer(n));
        due.is("number", 7, w.number(n));
        due.is("length", 6, w.length(n));
        due.is("sign", 3, w.sign(n, 1));
        due.is("sign", 2, w.sign(n, 5));
        due.fails("no place", NoSuchElementException.class, () -> w.sign(n, 6));
        due.fails("no place", NoSuchElementException.class, () -> w.sign(n, -1));
        long sum = 7;
        int[] row = {7, 3, 2, 3, 2, 2};
        for (int number : row) {
            sum = 31 * sum + number;
        }
        due.is("sum", sum, w.rowSum(n));
        w.setBound(n, 91);
        due.is("no prime", 'n', w.answer(n));
        due.is("number", 7, w.number(n));
        due.is("row", "7 13", Due.row(w, n));
        int r = w.open('r', 1, 0);
        due.is("empty", 0, w.length(r));
        due.is("sum of none", 7L, w.rowSum(r));
        due.fails("no place", NoSuchElementException.class, () -> w.sign(r, 0));
    }

    private static void noEntry(Due due) {
        Witnessworks w = new Witnessworks();
        w.open('n', 1, 7);
        for (int i = -1; i < 2; i += 2) {
            int none = i;
            due.fails("kindOf", NO_ENTRY, () -> w.kindOf(none));
            due.fails("sizeOf", NO_ENTRY, () -> w.sizeOf(none));
            due.fails("boundOf", NO_ENTRY, () -> w.boundOf(none));
            due.fails("items", NO_ENTRY, () -> w.items(none));
            due.fails("leansOn", NO_ENTRY, () -> w.leansOn(none));
            due.fails("cameFrom", NO_ENTRY, () -> w.cameFrom(none));
            due.fails("answer", NO_ENTRY, () -> w.answer(none));
            due.fails("number", NO_ENTRY, () -> w.number(none));
            due.fails("length", NO_ENTRY, () -> w.length(none));
            due.fails("sign", NO_ENTRY, () -> w.sign(none, 99));
            due.fails("rowSum", NO_ENTRY, () -> w.rowSum(none));
        }
    }
}
