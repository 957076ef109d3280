import java.util.NoSuchElementException;

/**
 * For each exception that a promise names the call that throws it, of two that apply at once the one that is
 * documented first, and that nothing is changed by a call that throws.
 */
public final class ThrowsTest {
    private static final Class<?> NO_ENTRY = IndexOutOfBoundsException.class;
    private static final Class<?> BAD = IllegalArgumentException.class;
    private static final Class<?> FULL = IllegalStateException.class;
    private static final Class<?> NOT_SO = UnsupportedOperationException.class;
    private static final Class<?> NONE = NoSuchElementException.class;
    private static final int MOST = Integer.MAX_VALUE;
    private static final int LEAST = Integer.MIN_VALUE;
    private static final String KINDS = "mfplsdnrgwax";

    private final Due due;
    private final Refused full;
    private final Refused some;

    private ThrowsTest(Due due) {
        this.due = due;
        full = new Refused(due, ThrowsTest::fill);
        some = new Refused(due, ThrowsTest::makeSome);
    }

    public static void main(String[] args) {
        Due due = new Due();
        ThrowsTest test = new ThrowsTest(due);
        test.open();
        test.put();
        test.change();
        test.drop();
        test.setBound();
        test.lean();
        test.stand();
        test.carry();
        test.undo();
        test.item();
        test.leansOnAndCameFrom();
        test.sign();
        test.noEntry();
        test.ofAnotherKind();
        test.noNodeOrItem();
        test.rangesOfOneKind();
        test.refutations();
        test.persons();
        test.typing();
        test.borrow();
        test.bring();
        test.claim();
        test.noClaim();
        test.noErratum();
        test.noEntries();
        due.end();
    }

    /** An entry of each kind, so that there are 12; those with items are as full as they can be. */
    private static void fill(Witnessworks w) {
        for (int i = 0; i < 12; i++) {
            char kind = KINDS.charAt(i);
            w.open(kind, kind == 'm' ? 7 : kind == 'p' ? 7 : kind == 'f' || kind == 'g' ? 2 : 1, 2);
        }
        for (int a = 0; a < 7; a++) {
            for (int b = a + 1; b < 7; b++) {
                if (w.items(0) < 16) {
                    w.put(0, a, b, 0, 0, 0);
                }
                if (w.items(2) < 11) {
                    w.put(2, a, b, 0, 0, 0);
                }
            }
        }
        int[] most = {16, 10, 11, 12, 12, 2, 0, 1, 5, 6, 1, 1};
        for (int entry = 0; entry < 12; entry++) {
            for (int item = w.items(entry); item < most[entry]; item++) {
                w.put(entry, 1 - entry / 10, entry == 9 ? 1 : 0, 0, entry == 11 ? -1 : 0, entry == 11 ? -1 : 0);
            }
        }
        w.person();
        w.type(5);
    }

    /** Pairings, flows that came from them, a prime on which they lean, and claims. */
    private static void makeSome(Witnessworks w) {
        w.open('m', 3, 1);
        w.put(0, 0, 1, 0, 0, 0);
        w.put(0, 1, 2, 0, 0, 0);
        w.carry(0, 'f');
        w.open('n', 1, 7);
        w.lean(1, 2, -6);
        w.person();
        w.borrow(2);
        w.claim(0, 2, true);
        w.settle();
        w.setBound(2, 8);
        w.wipe();
        w.type(3);
        w.settle();
        w.borrow(0);
        w.claim(0, 0, true);
    }

    private void open() {
        some.notBy("open", 3, w -> w.open('x', 1, 0));
        some.by("no kind", BAD, w -> w.open('z', 1, 0));
        some.by("size", BAD, w -> w.open('x', 0, 0));
        some.by("size", BAD, w -> w.open('x', 8, 0));
        some.by("bound", BAD, w -> w.open('x', 1, -1));
        some.by("bound", BAD, w -> w.open('x', 1, 7));
        full.by("twelve", FULL, w -> w.open('x', 1, 0));
        full.by("no kind, and twelve", BAD, w -> w.open('z', 1, 0));
        full.by("size, and twelve", BAD, w -> w.open('x', 8, 0));
        full.by("bound, and twelve", BAD, w -> w.open('x', 1, 7));
    }

    private void put() {
        some.notBy("put", 3, w -> w.put(0, 0, 2, 0, 0, 0));
        some.by("no entry", NO_ENTRY, w -> w.put(3, 0, 2, 0, 0, 0));
        some.by("no entry", NO_ENTRY, w -> w.put(-1, 0, 2, 0, 0, 0));
        some.by("no entry, and no node", NO_ENTRY, w -> w.put(MOST, 9, 9, 9, 9, 9));
        some.by("no node", BAD, w -> w.put(0, 0, 3, 0, 0, 0));
        some.by("like nodes", BAD, w -> w.put(0, 1, 1, 0, 0, 0));
        some.by("the same two", NOT_SO, w -> w.put(0, 1, 0, 0, 0, 0));
        some.by("the same two", NOT_SO, w -> w.put(0, 1, 2, 0, 0, 0));
        for (int i = 0; i < 12; i++) {
            int entry = i;
            boolean isEdge = entry == 0 || entry == 2;
            int a = isEdge ? 6 : entry > 9 ? 0 : 1;
            int b = isEdge ? 5 : entry == 9 ? 1 : 0;
            int e = entry == 11 ? -1 : 0;
            full.by("full " + KINDS.charAt(i), FULL, w -> w.put(entry, a, b, 0, e, e));
            if (entry != 6) {
                full.by("a number, and full " + KINDS.charAt(i), BAD, w -> w.put(entry, 256, 256, 256, 256, 256));
            }
        }
        full.by("anything, and full n", FULL, w -> w.put(6, LEAST, MOST, 256, 256, 256));
        full.by("the same two, and full m", NOT_SO, w -> w.put(0, 1, 0, 0, 0, 0));
        full.by("the same two, and full p", NOT_SO, w -> w.put(2, 1, 0, 0, 0, 0));
        full.by("no entry, and all else", NO_ENTRY, w -> w.put(12, 1, 0, 0, 0, 0));
    }

    private void change() {
        some.notBy("change", 1, w -> w.change(0, 0, 0, 2, 0, 0, 0));
        some.by("no entry", NO_ENTRY, w -> w.change(3, 0, 0, 2, 0, 0, 0));
        some.by("no entry", NO_ENTRY, w -> w.change(-1, 0, 0, 2, 0, 0, 0));
        some.by("no entry, and no item", NO_ENTRY, w -> w.change(3, 9, 0, 2, 0, 0, 0));
        some.by("no entry, and no node", NO_ENTRY, w -> w.change(3, 0, 0, 9, 0, 0, 0));
        some.by("no item", NONE, w -> w.change(0, 2, 0, 2, 0, 0, 0));
        some.by("no item", NONE, w -> w.change(0, -1, 0, 2, 0, 0, 0));
        some.by("no item", NONE, w -> w.change(2, 0, 0, 0, 0, 0, 0));
        some.by("no item, and no node", NONE, w -> w.change(0, 2, 0, 9, 0, 0, 0));
        some.by("no item, and the same two", NONE, w -> w.change(0, 2, 1, 0, 0, 0, 0));
        some.by("no node", BAD, w -> w.change(0, 0, 0, 3, 0, 0, 0));
        some.by("like nodes", BAD, w -> w.change(0, 0, 2, 2, 0, 0, 0));
        some.by("the same two", NOT_SO, w -> w.change(0, 0, 2, 1, 0, 0, 0));
        some.by("the same two", NOT_SO, w -> w.change(0, 1, 0, 1, 0, 0, 0));
        some.notBy("its own two", 2, w -> w.change(0, 0, 1, 0, 0, 0, 0));
        full.by("the same two in drawings", NOT_SO, w -> w.change(2, 0, 2, 0, 0, 0, 0));
    }

    private void drop() {
        some.notBy("drop", 1, w -> w.drop(0, 1));
        some.by("no entry", NO_ENTRY, w -> w.drop(3, 0));
        some.by("no entry", NO_ENTRY, w -> w.drop(-1, 0));
        some.by("no entry, and no item", NO_ENTRY, w -> w.drop(3, -1));
        some.by("no item", NONE, w -> w.drop(0, 2));
        some.by("no item", NONE, w -> w.drop(0, -1));
        some.by("no item", NONE, w -> w.drop(2, 0));
    }

    private void setBound() {
        some.notBy("setBound", 0, w -> w.setBound(1, 3));
        some.by("no entry", NO_ENTRY, w -> w.setBound(3, 3));
        some.by("no entry, and no bound", NO_ENTRY, w -> w.setBound(-1, -1));
        some.by("no bound", BAD, w -> w.setBound(0, 10));
        some.by("no bound", BAD, w -> w.setBound(0, -1));
        some.by("no bound, and it goes on leaning", BAD, w -> w.setBound(1, 61));
    }

    private void lean() {
        some.notBy("lean", 3, w -> w.lean(0, 2, 1));
        some.by("no entry", NO_ENTRY, w -> w.lean(3, 2, 0));
        some.by("no entry", NO_ENTRY, w -> w.lean(2, 3, 0));
        some.by("no entry", NO_ENTRY, w -> w.lean(2, -1, 0));
        some.by("no entry, and plus", NO_ENTRY, w -> w.lean(2, 3, 21));
        some.by("no entry, and plus", NO_ENTRY, w -> w.lean(-1, 2, 21));
        some.by("no entry, and the same one", NO_ENTRY, w -> w.lean(3, 3, 0));
        some.by("plus", BAD, w -> w.lean(0, 2, 21));
        some.by("plus", BAD, w -> w.lean(0, 2, -21));
        some.by("plus", BAD, w -> w.lean(0, 2, MOST));
        some.by("plus", BAD, w -> w.lean(0, 2, LEAST));
        some.by("plus, and the same one", BAD, w -> w.lean(0, 0, 21));
        some.by("plus, and it leans on this one", BAD, w -> w.lean(2, 1, -21));
        some.by("the same one", NOT_SO, w -> w.lean(0, 0, 0));
        some.by("the same one, which leans", NOT_SO, w -> w.lean(1, 1, 0));
        some.by("it leans on this one", NOT_SO, w -> w.lean(2, 1, 0));
        some.notBy("on the same one again", 22, w -> w.lean(1, 2, 20));
        some.notBy("at least the least", 0, w -> w.lean(1, 2, -20));
    }

    private void stand() {
        some.notBy("stand", 0, w -> w.stand(1));
        some.by("no entry", NO_ENTRY, w -> w.stand(3));
        some.by("no entry", NO_ENTRY, w -> w.stand(-1));
        some.by("on nothing", NOT_SO, w -> w.stand(2));
    }

    private void carry() {
        some.notBy("carry", 3, w -> w.carry(0, 'f'));
        some.by("no entry", NO_ENTRY, w -> w.carry(3, 'f'));
        some.by("no entry, and no kind", NO_ENTRY, w -> w.carry(-1, 'z'));
        some.by("no kind", BAD, w -> w.carry(0, 'z'));
        some.by("no kind, and it cannot", BAD, w -> w.carry(2, 'F'));
        some.by("its bound is not 0", NOT_SO, w -> w.carry(0, 's'));
        some.by("no such way", NOT_SO, w -> w.carry(2, 'n'));
        some.by("five items", NOT_SO, w -> w.carry(1, 'l'));
        Refused carried = new Refused(due, w -> {
            makeSome(w);
            for (int i = 3; i < 12; i++) {
                w.carry(0, 'f');
            }
        });
        carried.by("twelve", FULL, w -> w.carry(0, 'f'));
        carried.by("no kind, and twelve", BAD, w -> w.carry(0, 'z'));
        carried.by("it cannot, and twelve", NOT_SO, w -> w.carry(0, 's'));
        carried.by("no entry, and twelve", NO_ENTRY, w -> w.carry(12, 'f'));
    }

    private void undo() {
        Refused none = new Refused(due, w -> { });
        none.by("nothing was changed", NONE, w -> w.undo());
        Refused undone = new Refused(due, w -> {
            w.open('n', 1, 2);
            w.undo();
        });
        undone.by("all is undone", NONE, w -> w.undo());
    }

    private void item() {
        some.notBy("item", 1, w -> w.item(0, 0, 1));
        some.by("no entry", NO_ENTRY, w -> w.item(3, 0, 0));
        some.by("no entry, and no item", NO_ENTRY, w -> w.item(3, 2, 0));
        some.by("no entry, and no index", NO_ENTRY, w -> w.item(-1, 0, 5));
        some.by("no item", NONE, w -> w.item(0, 2, 0));
        some.by("no item", NONE, w -> w.item(0, -1, 0));
        some.by("no item, and no index", NONE, w -> w.item(0, 2, 5));
        some.by("no index", BAD, w -> w.item(0, 0, 5));
        some.by("no index", BAD, w -> w.item(0, 0, -1));
        some.notBy("the last index", 0, w -> w.item(0, 1, 4));
    }

    private void leansOnAndCameFrom() {
        some.notBy("leansOn", 2, w -> w.leansOn(1));
        some.by("no entry", NO_ENTRY, w -> w.leansOn(3));
        some.by("on nothing", NONE, w -> w.leansOn(0));
        some.notBy("cameFrom", 0, w -> w.cameFrom(1));
        some.by("no entry", NO_ENTRY, w -> w.cameFrom(3));
        some.by("from none", NONE, w -> w.cameFrom(0));
    }

    private void sign() {
        some.notBy("sign", 1, w -> w.sign(0, 2));
        some.by("no entry", NO_ENTRY, w -> w.sign(3, 0));
        some.by("no entry, and no place", NO_ENTRY, w -> w.sign(3, 9));
        some.by("no place", NONE, w -> w.sign(0, 3));
        some.by("no place", NONE, w -> w.sign(0, -1));
        some.by("no place", NONE, w -> w.sign(0, MOST));
    }

    private void noEntry() {
        for (int none : new int[] {3, -1, MOST, LEAST}) {
            some.by("kindOf", NO_ENTRY, w -> w.kindOf(none));
            some.by("sizeOf", NO_ENTRY, w -> w.sizeOf(none));
            some.by("boundOf", NO_ENTRY, w -> w.boundOf(none));
            some.by("items", NO_ENTRY, w -> w.items(none));
            some.by("answer", NO_ENTRY, w -> w.answer(none));
            some.by("number", NO_ENTRY, w -> w.number(none));
            some.by("length", NO_ENTRY, w -> w.length(none));
            some.by("rowSum", NO_ENTRY, w -> w.rowSum(none));
            some.by("part", NO_ENTRY, w -> w.part(none, 99));
            some.by("isNarrow", NO_ENTRY, w -> w.isNarrow(none, 99));
            some.by("walk", NO_ENTRY, w -> w.walk(none, 99));
            some.by("isTight", NO_ENTRY, w -> w.isTight(none, 99));
            some.by("derivations", NO_ENTRY, w -> w.derivations(none));
            some.by("derived", NO_ENTRY, w -> w.derived(none, 99));
            some.by("gap", NO_ENTRY, w -> w.gap(none, 99));
            some.by("power", NO_ENTRY, w -> w.power(none, -1, -1));
            some.by("orderOf", NO_ENTRY, w -> w.orderOf(none, -1));
            some.by("rootsIn", NO_ENTRY, w -> w.rootsIn(none, 99, 99));
            some.by("orbit", NO_ENTRY, w -> w.orbit(none, 99));
            some.by("distance", NO_ENTRY, w -> w.distance(none, 0, 0));
            some.by("tells", NO_ENTRY, w -> w.tells(none, 99, 99));
            some.by("wins", NO_ENTRY, w -> w.wins(none, 99));
            some.by("borrow", NO_ENTRY, w -> w.borrow(none));
            some.by("bring", NO_ENTRY, w -> w.bring(none));
            some.by("check", NO_ENTRY, w -> w.check(none, true));
            some.by("isSettled", NO_ENTRY, w -> w.isSettled(none));
        }
    }

    /** The other exceptions of the call apply as well. */
    private void ofAnotherKind() {
        for (int i = 0; i < 12; i++) {
            int entry = i;
            char kind = KINDS.charAt(i);
            if (kind != 'm') {
                full.by("part of " + kind, NOT_SO, w -> w.part(entry, 99));
            }
            if (kind != 'f') {
                full.by("isNarrow of " + kind, NOT_SO, w -> w.isNarrow(entry, 99));
            }
            if (kind != 'p') {
                full.by("walk of " + kind, NOT_SO, w -> w.walk(entry, 99));
            }
            if (kind != 'l') {
                full.by("isTight of " + kind, NOT_SO, w -> w.isTight(entry, 99));
            }
            if (kind != 's') {
                full.by("derivations of " + kind, NOT_SO, w -> w.derivations(entry));
                full.by("derived of " + kind, NOT_SO, w -> w.derived(entry, 999));
            }
            if (kind != 'd') {
                full.by("gap of " + kind, NOT_SO, w -> w.gap(entry, 99));
            }
            if (kind != 'n') {
                full.by("power of " + kind, NOT_SO, w -> w.power(entry, -1, -1));
                full.by("orderOf of " + kind, NOT_SO, w -> w.orderOf(entry, -1));
            }
            if (kind != 'r') {
                full.by("rootsIn of " + kind, NOT_SO, w -> w.rootsIn(entry, 99, 99));
            }
            if (kind != 'g') {
                full.by("orbit of " + kind, NOT_SO, w -> w.orbit(entry, 99));
            }
            if (kind != 'w') {
                full.by("distance of " + kind, NOT_SO, w -> w.distance(entry, 0, 0));
            }
            if (kind != 'a') {
                full.by("tells of " + kind, NOT_SO, w -> w.tells(entry, 99, 99));
            }
            if (kind != 'x') {
                full.by("wins of " + kind, NOT_SO, w -> w.wins(entry, 99));
            }
        }
    }

    private void noNodeOrItem() {
        full.notBy("part", 'd', w -> w.part(0, 6));
        full.by("no node", BAD, w -> w.part(0, 7));
        full.by("no node", BAD, w -> w.part(0, -1));
        full.notBy("isNarrow", false, w -> w.isNarrow(1, 9));
        full.by("no item", NONE, w -> w.isNarrow(1, 10));
        full.by("no item", NONE, w -> w.isNarrow(1, -1));
        full.notBy("walk", 4, w -> w.walk(2, 0));
        full.by("no walk", NONE, w -> w.walk(2, 1));
        full.by("no walk", NONE, w -> w.walk(2, -1));
        full.notBy("isTight", false, w -> w.isTight(3, 12));
        full.by("no inequality", NONE, w -> w.isTight(3, 13));
        full.by("no inequality", NONE, w -> w.isTight(3, -1));
        full.notBy("orbit", 2, w -> w.orbit(8, 1));
        full.by("no point", BAD, w -> w.orbit(8, 2));
        full.by("no point", BAD, w -> w.orbit(8, -1));
        full.by("alike", NONE, w -> w.tells(10, 0, 0));
        full.by("no state", BAD, w -> w.tells(10, 0, 1));
        full.by("no state", BAD, w -> w.tells(10, 1, 0));
        full.by("no state, and the same", BAD, w -> w.tells(10, 1, 1));
        full.by("no state", BAD, w -> w.tells(10, -1, 0));
        full.notBy("wins", 0, w -> w.wins(11, 0));
        full.by("no node", BAD, w -> w.wins(11, 1));
        full.by("no node", BAD, w -> w.wins(11, -1));
    }

    private void rangesOfOneKind() {
        full.notBy("power", 1, w -> w.power(6, 9999, 9999));
        full.by("base", BAD, w -> w.power(6, 10000, 0));
        full.by("base", BAD, w -> w.power(6, -1, 0));
        full.by("exponent", BAD, w -> w.power(6, 0, 10000));
        full.by("exponent", BAD, w -> w.power(6, 0, -1));
        full.notBy("orderOf", 1, w -> w.orderOf(6, 9999));
        full.by("none", NONE, w -> w.orderOf(6, 0));
        full.by("none", NONE, w -> w.orderOf(6, 9998));
        full.by("base, and none", BAD, w -> w.orderOf(6, 10000));
        full.by("base, and none", BAD, w -> w.orderOf(6, -2));
        full.notBy("rootsIn", 0, w -> w.rootsIn(7, 10, 1023));
        full.by("cuts", BAD, w -> w.rootsIn(7, 11, 0));
        full.by("cuts", BAD, w -> w.rootsIn(7, -1, 0));
        full.by("cuts", BAD, w -> w.rootsIn(7, MOST, 0));
        full.by("part", BAD, w -> w.rootsIn(7, 10, 1024));
        full.by("part", BAD, w -> w.rootsIn(7, 0, 1));
        full.by("part", BAD, w -> w.rootsIn(7, 0, -1));
        full.notBy("distance", 0, w -> w.distance(9, 7, 7));
        full.by("no word", BAD, w -> w.distance(9, 0, 1));
        full.by("no word", BAD, w -> w.distance(9, 1, 256));
        full.by("no way", NONE, w -> w.distance(9, 1, 2));
        full.by("too many letters", NONE, w -> w.distance(9, 8, 8));
        full.by("too many letters, and no word", BAD, w -> w.distance(9, 8, 0));
        full.by("too many letters, and no word", BAD, w -> w.distance(9, 256, 8));
    }

    private void refutations() {
        Refused refuted = new Refused(due, w -> {
            w.open('p', 6, 11);
            for (int a = 0; a < 3; a++) {
                for (int b = 3; b < 6; b++) {
                    w.put(0, a, b, 0, 0, 0);
                }
            }
            w.open('l', 1, 0);
            w.put(1, 0, 0, 0, 0, -1);
            w.open('s', 1, 0);
            w.put(2, 1, 0, 0, 0, 0);
            w.open('d', 2, 1);
            w.put(3, 2, 0, 0, 0, 0);
            w.open('s', 1, 0);
        });
        refuted.by("no drawing", NONE, w -> w.walk(0, 0));
        refuted.by("a refutation", NONE, w -> w.isTight(1, 0));
        refuted.by("a refutation", NONE, w -> w.isTight(1, 1));
        refuted.notBy("the last one", 0, w -> w.derived(2, 2));
        refuted.by("no clause", NONE, w -> w.derived(2, 3));
        refuted.by("no clause", NONE, w -> w.derived(2, -1));
        refuted.by("a refutation", NONE, w -> w.gap(3, 0));
        refuted.by("no unknown, and a refutation", BAD, w -> w.gap(3, 2));
        refuted.by("no unknown, and a refutation", BAD, w -> w.gap(3, -1));
        refuted.notBy("none with a witness", 0, w -> w.derivations(4));
        refuted.by("no clause with a witness", NONE, w -> w.derived(4, 0));
        Refused held = new Refused(due, w -> w.open('d', 2, 1));
        held.notBy("gap", 1, w -> w.gap(0, 1));
        held.by("no unknown", BAD, w -> w.gap(0, 2));
        held.by("no unknown", BAD, w -> w.gap(0, -1));
    }

    private void persons() {
        Refused six = new Refused(due, w -> {
            for (int i = 0; i < 6; i++) {
                w.person();
            }
        });
        six.by("six", FULL, w -> w.person());
        six.notBy("points", 0, w -> w.points(5));
        six.by("no person", NO_ENTRY, w -> w.points(6));
        six.by("no person", NO_ENTRY, w -> w.points(-1));
        Refused five = new Refused(due, w -> {
            for (int i = 0; i < 5; i++) {
                w.person();
            }
        });
        five.by("no person yet", NO_ENTRY, w -> w.points(5));
        five.notBy("the last one", 5, w -> w.person());
    }

    private void typing() {
        Refused most = new Refused(due, w -> typeMany(w, 64));
        most.by("64", FULL, w -> w.type(0));
        most.by("64", FULL, w -> w.typeMore(1, 0, 0, 0, 0, 0, 0, 0, 0));
        most.by("none, and 64", BAD, w -> w.typeMore(0, 0, 0, 0, 0, 0, 0, 0, 0));
        most.by("nine, and 64", BAD, w -> w.typeMore(9, 0, 0, 0, 0, 0, 0, 0, 0));
        most.notBy("the last one", 63, w -> w.alter(63, 0));
        most.by("no place", NONE, w -> w.alter(64, 0));
        most.by("no place", NONE, w -> w.alter(-1, 0));
        for (int many = 1; many <= 8; many++) {
            int more = many;
            Refused some = new Refused(due, w -> typeMany(w, 64 - more));
            some.notBy("64 then", 64, w -> w.typeMore(more, 1, 2, 3, 4, 5, 6, 7, 8));
            Refused other = new Refused(due, w -> typeMany(w, 65 - more));
            other.by("65 then", FULL, w -> w.typeMore(more, 1, 2, 3, 4, 5, 6, 7, 8));
        }
        Refused none = new Refused(due, w -> { });
        none.by("empty", NONE, w -> w.alter(0, 0));
        none.by("none", BAD, w -> w.typeMore(0, 1, 2, 3, 4, 5, 6, 7, 8));
        none.by("nine", BAD, w -> w.typeMore(9, 1, 2, 3, 4, 5, 6, 7, 8));
        none.by("many", BAD, w -> w.typeMore(MOST, 1, 2, 3, 4, 5, 6, 7, 8));
        none.by("many", BAD, w -> w.typeMore(LEAST, 1, 2, 3, 4, 5, 6, 7, 8));
    }

    private static void typeMany(Witnessworks w, int many) {
        for (int i = 0; i < many; i++) {
            w.type(i);
        }
    }

    private void borrow() {
        Refused words = new Refused(due, w -> {
            w.open('w', 1, 6);
            w.put(0, 64, 1, 0, 0, 0);
            w.put(0, 2, 3, 0, 0, 0);
            w.open('w', 1, 6);
            w.put(1, 1, 255, 0, 0, 0);
            w.put(1, 2, 1, 0, 0, 0);
            w.put(1, 3, 1, 0, 0, 0);
            w.type(9);
        });
        words.notBy("64", 64, w -> w.borrow(0));
        words.by("127", NOT_SO, w -> w.borrow(1));
    }

    private void bring() {
        some.by("came from none", NOT_SO, w -> w.bring(0));
        some.by("another bound now", NOT_SO, w -> w.bring(1));
        some.notBy("as it would be", 3, w -> {
            w.setBound(1, 1);
            return w.bring(1);
        });
    }

    private void claim() {
        some.by("no person", NO_ENTRY, w -> w.claim(1, 0, true));
        some.by("no person", NO_ENTRY, w -> w.claim(-1, 0, true));
        some.by("no entry", NO_ENTRY, w -> w.claim(0, 3, true));
        some.by("no entry", NO_ENTRY, w -> w.claim(0, -1, true));
        Refused sixteen = new Refused(due, w -> {
            w.open('d', 1, 0);
            w.open('d', 1, 0);
            w.person();
            w.type(0);
            for (int i = 0; i < 16; i++) {
                w.alter(0, i);
                w.claim(0, 0, true);
            }
            w.alter(0, 16);
        });
        sixteen.by("16 stand", FULL, w -> w.claim(0, 0, true));
        sixteen.by("16 stand for another one", FULL, w -> w.claim(0, 1, true));
        sixteen.by("no person, and 16 stand", NO_ENTRY, w -> w.claim(1, 0, true));
        sixteen.by("no entry, and 16 stand", NO_ENTRY, w -> w.claim(0, 2, true));
        sixteen.notBy("not accepted, and 16 stand", 3, w -> w.claim(0, 0, false));
        sixteen.notBy("the same one", 0, w -> {
            w.alter(0, 15);
            return w.claim(0, 0, true);
        });
        sixteen.by("the same one, but of another entry", FULL, w -> {
            try {
                w.alter(0, 15);
                return w.claim(0, 1, true);
            } finally {
                w.alter(0, 16);
            }
        });
    }

    private void noClaim() {
        some.notBy("person", 0, w -> w.standingOf(0, 'p'));
        some.by("no claim", NONE, w -> w.standingOf(1, 'p'));
        some.by("no claim", NONE, w -> w.standingOf(-1, 'p'));
        some.by("no claim, and no letter", NONE, w -> w.standingOf(1, 'q'));
        for (int letter = 0; letter < 256; letter++) {
            char what = (char) letter;
            if ("pewl".indexOf(what) < 0) {
                some.by("no letter", BAD, w -> w.standingOf(0, what));
            }
        }
    }

    private void noErratum() {
        some.notBy("errata", 3, w -> w.errata());
        some.notBy("sign", 'r', w -> w.erratumSign(0));
        some.notBy("the last one", 'c', w -> w.erratumSign(2));
        some.by("no erratum", NONE, w -> w.erratumSign(3));
        some.by("no erratum", NONE, w -> w.erratumSign(-1));
        some.by("no erratum", NONE, w -> w.erratum(3, 's'));
        some.by("no erratum", NONE, w -> w.erratum(-1, 's'));
        some.by("no erratum, and no letter", NONE, w -> w.erratum(3, 'q'));
        for (int letter = 0; letter < 256; letter++) {
            char what = (char) letter;
            if ("sen".indexOf(what) < 0) {
                some.by("no letter", BAD, w -> w.erratum(0, what));
            }
        }
    }

    private void noEntries() {
        Refused none = new Refused(due, w -> { });
        none.by("no share", ArithmeticException.class, w -> w.yesShare());
        none.by("no mean", ArithmeticException.class, w -> w.meanLength());
        none.by("no entry", NO_ENTRY, w -> w.kindOf(0));
        Refused one = new Refused(due, w -> w.open('n', 1, 4));
        one.notBy("share", 0.0f, w -> w.yesShare());
        one.notBy("mean", 2.0, w -> w.meanLength());
    }
}
