/**
 * What only one kind is asked, asked of two entries of that kind in turn: each answer is that of its own entry, and
 * the same as if there were no other one.
 */
public final class TurnsTest {
    private interface Ask {
        Object of(Witnessworks w, int entry);
    }

    private final Due due;

    private TurnsTest(Due due) {
        this.due = due;
    }

    public static void main(String[] args) {
        Due due = new Due();
        TurnsTest test = new TurnsTest(due);
        test.networks();
        test.drawings();
        test.inequalities();
        test.clauses();
        test.numbers();
        test.words();
        test.machines();
        test.checks();
        due.end();
    }

    private static int[] entry(int kind, int size, int bound) {
        return new int[] {kind, size, bound};
    }

    private static void open(Witnessworks w, int[] entry, int[][] items) {
        int made = w.open((char) entry[0], entry[1], entry[2]);
        for (int[] item : items) {
            int[] all = java.util.Arrays.copyOf(item, 5);
            w.put(made, all[0], all[1], all[2], all[3], all[4]);
        }
    }

    /** Both must answer otherwise, so that one cannot answer for the other one. */
    private void turns(String what, int[] one, int[][] items, int[] other, int[][] others, Object want,
            Object wantOther, Ask ask) {
        Witnessworks w = new Witnessworks();
        open(w, one, items);
        open(w, other, others);
        due.is(what + ": both are solved", true, w.isSound());
        due.is(what + ", the first one", want, ask.of(w, 0));
        due.is(what + ", the second one", wantOther, ask.of(w, 1));
        due.is(what + ", the first one again", want, ask.of(w, 0));
        w.answer(1);
        w.checksum();
        due.is(what + ", the first one behind a sum", want, ask.of(w, 0));
        due.is(what + ", the second one behind it", wantOther, ask.of(w, 1));
        Witnessworks alone = new Witnessworks();
        open(alone, other, others);
        due.is(what + ", alone", wantOther, ask.of(alone, 0));
        due.is(what + ", both are unlike", false, want.equals(wantOther));
    }

    private void networks() {
        int[][] path = {{0, 1}, {1, 2}};
        int[][] round = {{0, 1}, {1, 2}, {2, 0}};
        turns("part", entry('m', 3, 0), path, entry('m', 3, 0), round, 'a', 'd', (w, e) -> w.part(e, 1));
        int[][] one = {{0, 1, 1}, {1, 2, 2}};
        int[][] other = {{0, 1, 2}, {1, 2, 1}};
        turns("isNarrow", entry('f', 3, 0), one, entry('f', 3, 0), other, true, false, (w, e) -> w.isNarrow(e, 0));
    }

    private void drawings() {
        int[][] flag = {{0, 1}, {1, 2}, {2, 0}, {0, 3}};
        int[][] ring = {{0, 1}, {1, 2}, {2, 3}, {3, 0}};
        turns("walk", entry('p', 4, 11), flag, entry('p', 4, 11), ring, 5, 4, (w, e) -> w.walk(e, 0));
    }

    private void inequalities() {
        int[][] one = {{-1, -1, 0, 0, -2}};
        int[][] other = {{1, 1, 0, 0, 2}};
        turns("isTight", entry('l', 2, 3), one, entry('l', 2, 3), other, true, false, (w, e) -> w.isTight(e, 0));
    }

    private void clauses() {
        int[][] one = {{1}, {-1}};
        int[][] other = {{2}, {-2}};
        turns("derivations", entry('s', 2, 2), one, entry('s', 2, 2), other, 3, 7, (w, e) -> w.derivations(e));
        turns("derived", entry('s', 2, 2), one, entry('s', 2, 2), other, 1, 2, (w, e) -> w.derived(e, 0));
    }

    private void numbers() {
        turns("gap", entry('d', 2, 6), new int[][] {{2, 3}}, entry('d', 2, 5), new int[][] {{2, 5}}, 3, 5,
                (w, e) -> w.gap(e, 0));
        turns("power", entry('n', 1, 7), new int[0][], entry('n', 1, 9), new int[0][], 1, 8,
                (w, e) -> w.power(e, 2, 3));
        turns("orderOf", entry('n', 1, 7), new int[0][], entry('n', 1, 9), new int[0][], 3, 6,
                (w, e) -> w.orderOf(e, 2));
        turns("rootsIn", entry('r', 1, 1), new int[][] {{0, 1}}, entry('r', 1, 1), new int[][] {{0, -1, 0, 1}}, 1, 2,
                (w, e) -> w.rootsIn(e, 1, 0));
    }

    private void words() {
        int[][] one = {{0, 1, 2}, {1, 0, 2}};
        int[][] other = {{0, 1, 2}, {1, 2, 0}};
        turns("orbit", entry('g', 3, 1), one, entry('g', 3, 1), other, 2, 3, (w, e) -> w.orbit(e, 0));
        int[][] step = {{1, 1}, {2, 3}};
        int[][] both = {{1, 1}, {4, 7}};
        turns("distance", entry('w', 1, 3), step, entry('w', 1, 3), both, 2, 1, (w, e) -> w.distance(e, 8, 11));
    }

    private void machines() {
        int[][] one = {{0, 1, 0}, {1, 1, 1}};
        int[][] other = {{1, 1, 0}, {0, 2, 0}, {2, 2, 1}};
        turns("tells", entry('a', 3, 1), one, entry('a', 3, 1), other, 0, 1, (w, e) -> w.tells(e, 0, 1));
        int[][] even = {{0, 2, 0, -1, -1}};
        int[][] odd = {{0, 1, 0, -1, -1}};
        turns("wins", entry('x', 2, 0), even, entry('x', 2, 0), odd, 0, 1, (w, e) -> w.wins(e, 0));
    }

    /** One typed row is looked at for two entries of each kind, which are unlike in one item or in the bound. */
    private void checks() {
        checked(entry('m', 2, 0), new int[][] {{0, 1}}, entry('m', 2, 0), new int[0][], 0, 3, 1, 0);
        checked(entry('f', 2, 1), new int[][] {{0, 1, 1}}, entry('f', 2, 1), new int[][] {{0, 1, 0}}, 0, 2, 1);
        checked(entry('p', 2, 1), new int[][] {{0, 1}}, entry('p', 2, 0), new int[][] {{0, 1}}, 0, 1, 1, 0);
        checked(entry('l', 1, 5), new int[][] {{-1, 0, 0, 0, -5}}, entry('l', 1, 4), new int[0][], 0, 4, 1, 5);
        checked(entry('s', 1, 1), new int[][] {{1}}, entry('s', 1, 1), new int[][] {{-1}}, 0, 3, 1);
        checked(entry('d', 1, 6), new int[][] {{2}}, entry('d', 1, 6), new int[][] {{3}}, 0, 2, 3);
        checked(entry('n', 1, 5), new int[0][], entry('n', 1, 3), new int[0][], 0, 2, 5, 2, 2);
        checked(entry('r', 1, 1), new int[][] {{-1, 1}}, entry('r', 1, 1), new int[][] {{1, 1}}, 0, 4, 1, 1);
        checked(entry('g', 2, 1), new int[][] {{1, 0}, {1, 0}}, entry('g', 2, 1), new int[][] {{0, 1}, {1, 0}}, 0,
                2, 1);
        checked(entry('w', 1, 1), new int[][] {{2, 3}, {2, 3}}, entry('w', 1, 1), new int[][] {{2, 3}, {1, 3}}, 0,
                2, 2, 3);
        checked(entry('a', 2, 1), new int[0][], entry('a', 2, 1), new int[][] {{0, 0, 1}}, 0, 2, 0, 0);
        checked(entry('x', 1, 0), new int[0][], entry('x', 1, 0), new int[][] {{0, 1, 0, -1, -1}}, 0, 2, 0);
    }

    private void checked(int[] one, int[][] items, int[] other, int[][] others, int want, int wantOther, int... row) {
        Witnessworks w = new Witnessworks();
        open(w, one, items);
        open(w, other, others);
        for (int number : row) {
            w.type(number);
        }
        String what = "check of " + (char) one[0];
        for (int i = 0; i < 2; i++) {
            due.is(what + ", the first one", want, w.check(0, true));
            due.is(what + ", the second one", wantOther, w.check(1, true));
        }
        due.is(what + ", sound", true, w.isSound());
        due.is(what + ", the first one", want, w.check(0, true));
        due.is(what + ", the second one", wantOther, w.check(1, true));
    }
}
