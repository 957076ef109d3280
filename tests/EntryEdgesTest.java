/** The boundary cases of part 1: numbers without a meaning, sizes, bounds, items, and items that are dropped. */
public final class EntryEdgesTest {
    private static final int MOST = Integer.MAX_VALUE;
    private static final int LEAST = Integer.MIN_VALUE;
    private static final String KINDS = "mfplsdnrgwax";
    private static final int[] LEAST_SIZE = {1, 2, 1, 1, 1, 1, 1, 1, 2, 1, 1, 1};
    private static final int[] MOST_SIZE = {9, 7, 7, 4, 6, 4, 1, 1, 6, 1, 8, 7};
    private static final int[] LEAST_BOUND = {0, 0, 0, 0, 0, -40, 2, 0, 0, 0, 0, 0};
    private static final int[] MOST_BOUND = {9, 60, 11, 40, 6, 40, 9999, 3, 4, 7, 7, 6};
    private final Due due;

    private EntryEdgesTest(Due due) {
        this.due = due;
    }

    public static void main(String[] args) {
        Due due = new Due();
        EntryEdgesTest test = new EntryEdgesTest(due);
        test.everySize();
        test.everyBound();
        test.noSuchKinds();
        test.withoutMeaning();
        test.unknownsThatThereAreNot();
        test.pointsThatThereAreNot();
        test.rangesOfNumbers();
        test.nodesOfEverySize();
        test.dropped();
        test.droppedItemsOfMeaning();
        test.droppedAndPutAgain();
        test.changedNumbers();
        due.end();
    }

    private static boolean opens(char kind, int size, int bound) {
        Witnessworks w = new Witnessworks();
        try {
            w.open(kind, size, bound);
        } catch (IllegalArgumentException e) {
            return false;
        }
        return w.entries() == 1 && w.sizeOf(0) == size && w.boundOf(0) == bound && w.kindOf(0) == kind;
    }

    private void everySize() {
        for (int i = 0; i < 12; i++) {
            char kind = KINDS.charAt(i);
            for (int size = -2; size <= 12; size++) {
                boolean can = size >= LEAST_SIZE[i] && size <= MOST_SIZE[i];
                due.is("size " + size + " of " + kind, can, opens(kind, size, 2));
            }
            due.is("greatest of all ints", false, opens(kind, MOST, 2));
            due.is("least of all ints", false, opens(kind, LEAST, 2));
        }
    }

    private void everyBound() {
        for (int i = 0; i < 12; i++) {
            char kind = KINDS.charAt(i);
            int[] bounds = {LEAST, LEAST_BOUND[i] - 1, LEAST_BOUND[i], LEAST_BOUND[i] + 1, MOST_BOUND[i] - 1,
                MOST_BOUND[i], MOST_BOUND[i] + 1, MOST};
            for (int bound : bounds) {
                boolean can = bound >= LEAST_BOUND[i] && bound <= MOST_BOUND[i];
                due.is("bound " + bound + " of " + kind, can, opens(kind, LEAST_SIZE[i], bound));
                Witnessworks w = new Witnessworks();
                w.open(kind, MOST_SIZE[i], 2);
                if (can) {
                    due.is("told " + bound, 2, w.setBound(0, bound));
                } else {
                    due.fails("told " + bound, IllegalArgumentException.class, () -> w.setBound(0, bound));
                }
                due.is("bound " + bound + " of " + kind, can ? bound : 2, w.boundOf(0));
            }
        }
    }

    private void noSuchKinds() {
        int kinds = 0;
        for (int letter = 0; letter < 65536; letter++) {
            if (opens((char) letter, 1, 2) || opens((char) letter, 2, 2)) {
                kinds++;
            }
        }
        due.is("kinds", 12, kinds);
    }

    /** Each number that has no meaning is told as the least and the greatest of all ints. */
    private void noMeaning(char kind, int size, int bound, int named, int... item) {
        Witnessworks w = new Witnessworks();
        w.open(kind, size, bound);
        w.put(0, item[0], item[1], item[2], item[3], item[4]);
        String told = w.answer(0) + " " + w.number(0) + " " + Due.row(w, 0);
        long sum = w.checksum();
        for (int index = 0; index < 5; index++) {
            if ((named >> index & 1) == 0) {
                int[] other = item.clone();
                for (int number : new int[] {LEAST, MOST, -1, 1, 77}) {
                    int old = w.item(0, 0, index);
                    other[index] = number;
                    due.is("one number", old == number ? 0 : 1,
                            w.change(0, 0, other[0], other[1], other[2], other[3], other[4]));
                    due.is("kept as it was told", number, w.item(0, 0, index));
                    due.is("of no meaning", told, w.answer(0) + " " + w.number(0) + " " + Due.row(w, 0));
                    due.is("of no meaning", sum, w.checksum());
                }
                w.change(0, 0, item[0], item[1], item[2], item[3], item[4]);
            } else {
                int[] other = item.clone();
                other[index] = MOST;
                due.fails("number " + index + " of " + kind + " is named", IllegalArgumentException.class,
                        () -> w.change(0, 0, other[0], other[1], other[2], other[3], other[4]));
            }
        }
    }

    private void withoutMeaning() {
        noMeaning('m', 2, 0, 3, 0, 1, 0, 0, 0);
        noMeaning('f', 2, 1, 7, 0, 1, 2, 0, 0);
        noMeaning('p', 2, 1, 3, 0, 1, 0, 0, 0);
        noMeaning('s', 2, 1, 7, 1, 2, 0, 0, 0);
        noMeaning('r', 1, 1, 15, 0, 1, 0, 0, 0);
        noMeaning('w', 1, 1, 3, 2, 3, 0, 0, 0);
        noMeaning('a', 2, 1, 7, 1, 0, 1, 0, 0);
        noMeaning('x', 2, 1, 31, 1, 1, 0, 1, -1);
    }

    private void unknownsThatThereAreNot() {
        for (int size = 1; size <= 4; size++) {
            noMeaning('l', size, 3, 16 + (1 << size) - 1, 1, 0, 0, 0, 2);
            noMeaning('d', size, 3, 16 + (1 << size) - 1, 1, 0, 0, 0, 2);
        }
    }

    private void pointsThatThereAreNot() {
        int[] item = {1, 0, 2, 3, 4};
        for (int size = 2; size <= 5; size++) {
            noMeaning('g', size, 0, (1 << size) - 1, item);
        }
        noMeaning('g', 6, 0, 31, item);
    }

    /** The item can be as long as the number at the index is from least to most. */
    private void range(char kind, int size, int index, int least, int most, int... item) {
        for (int number : new int[] {LEAST, least - 1, least, most, most + 1, MOST}) {
            Witnessworks w = new Witnessworks();
            w.open(kind, size, 2);
            int[] other = item.clone();
            other[index] = number;
            String what = kind + " number " + index + " " + number;
            if (number < least || number > most) {
                due.fails(what, IllegalArgumentException.class,
                        () -> w.put(0, other[0], other[1], other[2], other[3], other[4]));
                due.is(what, 0, w.items(0));
            } else {
                due.is(what, 1, w.put(0, other[0], other[1], other[2], other[3], other[4]));
                due.is(what, number, w.item(0, 0, index));
            }
        }
    }

    private void rangesOfNumbers() {
        range('f', 2, 2, 0, 6, 0, 1, 0, 0, 0);
        for (int index = 0; index < 4; index++) {
            range('l', 4, index, -9, 9, 0, 0, 0, 0, 0);
            range('d', 4, index, -6, 6, 0, 0, 0, 0, 0);
            range('r', 1, index, -7, 7, 0, 0, 0, 0, 0);
        }
        range('l', 1, 4, -60, 60, 0, 0, 0, 0, 0);
        range('d', 1, 4, -20, 20, 0, 0, 0, 0, 0);
        for (int index = 0; index < 3; index++) {
            for (int size = 1; size <= 6; size++) {
                int[] item = {1, 1, 1, 0, 0};
                range('s', size, index, -size, size, item);
            }
        }
        range('w', 1, 0, 1, 255, 1, 1, 0, 0, 0);
        range('w', 1, 1, 1, 255, 1, 1, 0, 0, 0);
        range('a', 2, 2, 0, 1, 0, 0, 0, 0, 0);
        range('x', 2, 0, 0, 1, 0, 0, 0, 0, 0);
        range('x', 2, 1, 0, 5, 0, 0, 0, 0, 0);
        Desk s = new Desk(due, 's', 6, 0);
        s.fails("not all three are 0", IllegalArgumentException.class, () -> s.w.put(0, 0, 0, 0, 1, 1));
        s.item(0, 0, -6);
        s.fails("not all three are 0", IllegalArgumentException.class, () -> s.w.change(0, 0, 0, 0, 0, 1, 1));
    }

    private void nodesOfEverySize() {
        for (int size = 2; size <= 9; size++) {
            range('m', size, 1, 1, size - 1, 0, 1, 0, 0, 0);
            range('m', size, 0, 0, size - 2, 0, size - 1, 0, 0, 0);
        }
        for (int size = 2; size <= 7; size++) {
            range('f', size, 1, 1, size - 1, 0, 1, 0, 0, 0);
            range('f', size, 0, 0, size - 2, 0, size - 1, 0, 0, 0);
            range('p', size, 1, 1, size - 1, 0, 1, 0, 0, 0);
            range('p', size, 0, 0, size - 2, 0, size - 1, 0, 0, 0);
        }
        for (int size = 1; size <= 8; size++) {
            range('a', size, 0, 0, size - 1, 0, 0, 0, 0, 0);
            range('a', size, 1, 0, size - 1, 0, 0, 0, 0, 0);
        }
        for (int size = 1; size <= 7; size++) {
            range('x', size, 2, 0, size - 1, 0, 0, 0, 0, 0);
            range('x', size, 3, -1, size - 1, 0, 0, 0, 0, 0);
            range('x', size, 4, -1, size - 1, 0, 0, 0, 0, 0);
        }
        for (int size = 2; size <= 5; size++) {
            for (int index = 0; index < size; index++) {
                range('g', size, index, index, index, 0, 1, 2, 3, 4);
            }
        }
        range('g', 6, 4, 4, 5, 0, 1, 2, 3, 4);
        range('g', 6, 0, 0, 0, 5, 1, 2, 3, 4);
    }

    private static String items(Witnessworks w, int entry) {
        StringBuilder text = new StringBuilder();
        for (int item = 0; item < w.items(entry); item++) {
            for (int index = 0; index < 5; index++) {
                text.append(w.item(entry, item, index)).append(index < 4 ? " " : "; ");
            }
        }
        return text.toString();
    }

    private void dropped() {
        for (int item = 0; item < 3; item++) {
            Witnessworks w = new Witnessworks();
            w.open('f', 2, 0);
            w.put(0, 0, 1, 1, 11, 111);
            w.put(0, 0, 1, 2, 12, 112);
            w.put(0, 0, 1, 3, 13, 113);
            String all = "0 1 1 11 111; 0 1 2 12 112; 0 1 3 13 113; ";
            due.is("all", all, items(w, 0));
            due.is("left", 2, w.drop(0, item));
            String gone = "0 1 " + (item + 1) + " 1" + (item + 1) + " 11" + (item + 1) + "; ";
            due.is("it is gone", all.replace(gone, ""), items(w, 0));
            due.fails("no such item now", java.util.NoSuchElementException.class, () -> w.item(0, 2, 0));
            due.fails("no such item now", java.util.NoSuchElementException.class, () -> w.drop(0, 2));
            due.is("undone", 'd', w.undo());
            due.is("all again", all, items(w, 0));
        }
    }

    private void droppedItemsOfMeaning() {
        Desk g = new Desk(due, 'g', 2, 1).item(1, 0).item(1, 0);
        g.tells("the item 1 is used", 'y', 2, "1");
        g.w.drop(0, 0);
        g.tells("it is what is asked now", 'n', 1, "1 0");
        g.w.drop(0, 0);
        g.tells("nothing is asked", 'y', 1, "");
        Desk x = new Desk(due, 'x', 2, 1).item(0, 0, 0, -1, -1).item(0, 1, 1, -1, -1);
        x.tells("the item 1 tells of the node 1", 'n', 1, "-1 -1");
        x.w.drop(0, 0);
        x.tells("it tells of the node 0 now", 'y', 2, "1 1");
        Desk a = new Desk(due, 'a', 2, 1).item(0, 0, 0).item(0, 0, 1);
        a.tells("the item 1 tells of the state 1", 'n', 2, "");
        a.w.drop(0, 1);
        a.tells("that is not final any more", 'y', 1, "0 0");
        Desk r = new Desk(due, 'r', 1, 1).item(0, 1);
        r.tells("a root", 'y', 1, "0 0");
        r.w.drop(0, 0);
        r.tells("none", 'n', 0, "");
    }

    private void droppedAndPutAgain() {
        Desk m = new Desk(due, 'm', 3, 1).item(0, 1, 7, 8, 9);
        m.fails("it is there", UnsupportedOperationException.class, () -> m.w.put(0, 1, 0, 0, 0, 0));
        m.w.drop(0, 0);
        due.is("it is gone", 1, m.w.put(0, 1, 0, 0, 0, 0));
        due.is("nothing is left of it", "1 0 0 0 0; ", items(m.w, 0));
        Desk a = new Desk(due, 'a', 1, 0).item(0, 0, 1);
        a.fails("full", IllegalStateException.class, () -> a.w.put(0, 0, 0, 0, 0, 0));
        a.w.drop(0, 0);
        due.is("not full any more", 1, a.w.put(0, 0, 0, 0, 0, 0));
    }

    private void changedNumbers() {
        int[] old = {0, 1, 2, LEAST, MOST};
        for (int set = 0; set < 32; set++) {
            Witnessworks w = new Witnessworks();
            w.open('f', 4, 0);
            w.put(0, old[0], old[1], old[2], old[3], old[4]);
            int[] other = old.clone();
            int[] anew = {3, 2, 6, MOST, LEAST};
            int many = 0;
            for (int index = 0; index < 5; index++) {
                if ((set >> index & 1) == 1) {
                    other[index] = anew[index];
                    many++;
                }
            }
            due.is("others", many, w.change(0, 0, other[0], other[1], other[2], other[3], other[4]));
            for (int index = 0; index < 5; index++) {
                due.is("told anew", other[index], w.item(0, 0, index));
            }
        }
    }
}
