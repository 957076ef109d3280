/** Promise 1. */
public final class FirstTest {
    public static void main(String[] args) {
        Due due = new Due();
        Witnessworks w = new Witnessworks();
        due.is("entries", 0, w.entries());
        due.is("standing", 0, w.standing());
        due.is("errata", 0, w.errata());
        due.is("checksum", 7L, w.checksum());
        due.is("isSound", true, w.isSound());
        due.is("wipe", 0, w.wipe());
        due.is("settle", 0, w.settle());
        due.fails("kindOf", IndexOutOfBoundsException.class, () -> w.kindOf(0));
        due.fails("undo", java.util.NoSuchElementException.class, () -> w.undo());
        due.end();
    }
}
