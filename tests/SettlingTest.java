import java.util.NoSuchElementException;

/** Promises 50 to 58: settling and sums. */
public final class SettlingTest {
    private static final Class<?> NONE = NoSuchElementException.class;
    private final Due due;

    private SettlingTest(Due due) {
        this.due = due;
    }

    public static void main(String[] args) {
        Due due = new Due();
        SettlingTest test = new SettlingTest(due);
        test.settling();
        test.claimsFall();
        test.places();
        test.manyErrata();
        test.sums();
        test.soundness();
        due.end();
    }

    private void erratum(Witnessworks w, int index, char sign, int settling, int entry, int number) {
        due.is("sign of " + index, sign, w.erratumSign(index));
        due.is("settling of " + index, settling, w.erratum(index, 's'));
        due.is("entry of " + index, entry, w.erratum(index, 'e'));
        due.is("number of " + index, number, w.erratum(index, 'n'));
    }

    private void settling() {
        Witnessworks w = new Witnessworks();
        int n = w.open('n', 1, 7);
        int m = w.open('m', 2, 0);
        due.is("not there yet", false, w.isSettled(n));
        due.is("first", 0, w.settle());
        due.is("settled", true, w.isSettled(n));
        due.is("nothing else", 0, w.settle());
        w.setBound(n, 8);
        w.put(m, 0, 1, 0, 0, 0);
        due.is("another answer", false, w.isSettled(n));
        due.is("two", 2, w.settle());
        erratum(w, 0, 'n', 3, n, 0);
        erratum(w, 1, 'y', 3, m, 0);
        due.is("settled", true, w.isSettled(n));
        w.setBound(n, 9);
        due.is("another row", false, w.isSettled(n));
        int x = w.open('x', 1, 0);
        due.is("not there", false, w.isSettled(x));
        due.is("one", 1, w.settle());
        erratum(w, 2, 'r', 4, n, 0);
        w.setBound(n, 15);
        w.settle();
        erratum(w, 3, 'r', 5, n, 1);
        due.is("errata", 4, w.errata());
        w.setBound(n, 25);
        w.setBound(n, 15);
        due.is("back again", true, w.isSettled(n));
        due.is("back again", 0, w.settle());
        w.setBound(m, 9);
        due.is("the same row by another bound", 0, w.settle());
        due.fails("no entry", IndexOutOfBoundsException.class, () -> w.isSettled(3));
        due.fails("no entry", IndexOutOfBoundsException.class, () -> w.isSettled(-1));
        due.fails("no erratum", NONE, () -> w.erratum(4, '?'));
        due.fails("no erratum", NONE, () -> w.erratum(-1, 's'));
        due.fails("no letter", IllegalArgumentException.class, () -> w.erratum(0, '?'));
        due.fails("no letter", IllegalArgumentException.class, () -> w.erratum(0, 'c'));
        due.fails("no erratum", NONE, () -> w.erratumSign(4));
        due.fails("no erratum", NONE, () -> w.erratumSign(-1));
    }

    private void claimsFall() {
        Witnessworks w = new Witnessworks();
        int n = w.open('n', 1, 15);
        int d = w.open('d', 1, 0);
        w.person();
        w.typeMore(1, 4, 0, 0, 0, 0, 0, 0, 0);
        w.claim(0, d, true);
        w.wipe();
        w.typeMore(2, 5, 3, 0, 0, 0, 0, 0, 0);
        w.claim(0, n, false);
        w.borrow(n);
        w.claim(0, n, false);
        w.settle();
        due.is("all stand", 3, w.standing());
        w.setBound(n, 13);
        w.put(d, 1, 0, 0, 0, 0);
        due.is("errata", 4, w.settle());
        erratum(w, 0, 'y', 2, n, 0);
        erratum(w, 1, 'c', 2, n, 2);
        erratum(w, 2, 'c', 2, n, 2);
        erratum(w, 3, 'c', 2, d, 2);
        due.is("none stands", 0, w.standing());
        due.is("points stay", 3, w.points(0));
        int late = w.open('n', 1, 9);
        w.borrow(late);
        w.claim(0, late, false);
        w.setBound(late, 10);
        due.is("claims of a new one are looked at too", 1, w.settle());
        erratum(w, 4, 'c', 3, late, 2);
        w.borrow(late);
        w.claim(0, late, false);
        w.borrow(n);
        w.claim(0, n, true);
        w.setBound(late, 12);
        w.setBound(n, 14);
        w.setBound(n, 13);
        due.is("one falls", 2, w.settle());
        due.is("one stands", 1, w.standing());
        due.is("that one", n, w.standingOf(0, 'e'));
    }

    private void places() {
        Witnessworks w = new Witnessworks();
        int g = w.open('g', 3, 1);
        w.put(g, 0, 2, 1, 0, 0);
        w.put(g, 0, 2, 1, 0, 0);
        w.settle();
        due.is("one item", "1", Due.row(w, g));
        w.change(g, 0, 0, 1, 2, 0, 0);
        due.is("no item", "", Due.row(w, g));
        w.settle();
        erratum(w, 0, 'r', 2, g, 0);
        w.change(g, 1, 1, 2, 0, 0, 0);
        w.change(g, 0, 1, 2, 0, 0, 0);
        w.settle();
        w.change(g, 0, 2, 0, 1, 0, 0);
        due.is("longer", "1 1", Due.row(w, g));
        w.settle();
        erratum(w, 2, 'r', 4, g, 1);
    }

    private void manyErrata() {
        Witnessworks w = new Witnessworks();
        for (int i = 0; i < 12; i++) {
            w.open('n', 1, 7);
        }
        w.settle();
        int lean = w.entries() - 1;
        for (int i = 0; i < 11; i++) {
            w.lean(i, lean, 0);
        }
        w.settle();
        int all = w.errata();
        for (int i = 0; i < 200; i++) {
            w.setBound(lean, i % 2 == 0 ? 9 : 11);
            all += 12;
            due.is("twelve", 12, w.settle());
        }
        due.is("not forgotten", all, w.errata());
        erratum(w, all - 1, 'y', 202, 11, 0);
        erratum(w, all - 13, 'n', 201, 11, 0);
        erratum(w, all - 24, 'r', 201, 0, 0);
    }

    private void sums() {
        Witnessworks w = new Witnessworks();
        due.fails("no share", ArithmeticException.class, () -> w.yesShare());
        due.fails("no mean", ArithmeticException.class, () -> w.meanLength());
        due.is("sum", 7L, w.checksum());
        int n = w.open('n', 1, 7);
        due.is("share", 1.0f, w.yesShare());
        due.is("mean", 6.0, w.meanLength());
        long sum = 31L * 7 + 7;
        sum = 31 * sum + 7;
        sum = 31 * sum + 'y';
        sum = 31 * sum + w.rowSum(n);
        due.is("sum", sum, w.checksum());
        w.open('n', 1, 8);
        w.open('n', 1, 9);
        due.is("share", 1.0f / 3.0f, w.yesShare());
        due.is("mean", 10.0 / 3.0, w.meanLength());
        w.lean(0, 1, 0);
        sum = 31L * 7 + 2;
        sum = 31 * sum + 2;
        sum = 31 * sum + 'y';
        sum = 31 * sum + (31 * 7 + 2);
        sum = 31 * sum + 8;
        sum = 31 * sum + 2;
        sum = 31 * sum + 'n';
        sum = 31 * sum + (31 * (31 * 7 + 2) + 4);
        sum = 31 * sum + 9;
        sum = 31 * sum + 3;
        sum = 31 * sum + 'n';
        sum = 31 * sum + (31 * (31 * 7 + 3) + 3);
        due.is("sum", sum, w.checksum());
        w.undo();
        w.undo();
        w.undo();
        w.undo();
        due.is("sum", 7L, w.checksum());
        due.fails("no share", ArithmeticException.class, () -> w.yesShare());
    }

    private void soundness() {
        Witnessworks w = new Witnessworks();
        due.is("empty", true, w.isSound());
        int n = w.open('n', 1, 15);
        w.person();
        w.borrow(n);
        w.claim(0, n, false);
        w.setBound(n, 13);
        due.is("a claim that would not be accepted now", true, w.isSound());
        int m = w.open('m', 2, 0);
        w.put(m, 0, 1, 0, 0, 0);
        int f = w.carry(m, 'f');
        w.carry(f, 'l');
        w.carry(m, 's');
        due.is("carried", true, w.isSound());
        w.drop(m, 0);
        due.is("not carried so now", true, w.isSound());
    }
}
