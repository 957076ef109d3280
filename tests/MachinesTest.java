import java.util.ArrayList;
import java.util.List;

/** Kind 'a', and promise 36. Words of at most 8 letters tell any two of 8 states apart, if one does. */
public final class MachinesTest extends Trial {
    MachinesTest(Due due) {
        super(due);
    }

    public static void main(String[] args) {
        Due due = new Due();
        new MachinesTest(due).run(1200, 11);
        edges(due);
        due.end();
    }

    private static void edges(Due due) {
        Witnessworks w = new Witnessworks();
        int a = w.open('a', 1, 0);
        due.is("one state", "0", Due.row(w, a));
        due.is("one", 1, w.number(a));
        int b = w.open('a', 3, 7);
        due.is("all alike", "0 0 0", Due.row(w, b));
        w.put(b, 1, 1, 0, 0, 0);
        w.put(b, 2, 1, 0, 0, 0);
        w.put(b, 2, 2, 1, 0, 0);
        due.is("the last one is asked", 'n', w.answer(b));
        due.is("no letters", "", Due.row(w, b));
        due.is("tells", 0, w.tells(b, 0, 2));
        due.is("tells", 1, w.tells(b, 0, 1));
        due.fails("alike", java.util.NoSuchElementException.class, () -> w.tells(b, 1, 1));
        due.fails("no state", IllegalArgumentException.class, () -> w.tells(b, 3, 0));
        due.fails("no state", IllegalArgumentException.class, () -> w.tells(b, 0, 3));
        due.fails("no state", IllegalArgumentException.class, () -> w.tells(b, -1, 0));
        due.fails("no state", IllegalArgumentException.class, () -> w.tells(b, 0, -1));
        due.fails("no entry", IndexOutOfBoundsException.class, () -> w.tells(2, 0, 0));
        int m = w.open('m', 2, 0);
        due.fails("another kind", UnsupportedOperationException.class, () -> w.tells(m, 9, 9));
        w.setBound(b, 1);
        due.is("one letter", "0", Due.row(w, b));
        w.setBound(b, 0);
        due.is("alike with itself", "0 1 2", Due.row(w, b));
    }

    @Override
    char kind() {
        return 'a';
    }

    @Override
    void make() {
        size = between(1, 8);
        bound = between(0, 7);
        int many = below(2) == 0 ? size : between(0, size);
        int finals = between(1, 4);
        int states = below(2) == 0 ? size : between(1, size);
        for (int i = 0; i < many; i++) {
            items.add(new int[] {below(states), below(states), below(finals) == 0 ? 1 : 0, 12, -3});
        }
        if (size > 4 && below(3) == 0) {
            items.clear();
            for (int i = 0; i < size; i++) {
                items.add(new int[] {Math.min(i + 1, size - 1), below(2) == 0 ? i : below(size), i == size - 1 ? 1 : 0,
                    0, 0});
            }
        }
    }

    private int go(int state, int letter) {
        return state < items.size() ? items.get(state)[letter] : state;
    }

    private boolean isFinal(int state) {
        return state < items.size() && items.get(state)[2] == 1;
    }

    private int asked() {
        return bound < size ? bound : size - 1;
    }

    private List<Integer> tell(int one, int other) {
        for (int letters = 0; letters <= 8; letters++) {
            for (int word = 0; word < 1 << letters; word++) {
                List<Integer> row = new ArrayList<>();
                int u = one;
                int v = other;
                for (int i = letters - 1; i >= 0; i--) {
                    int letter = word >> i & 1;
                    u = go(u, letter);
                    v = go(v, letter);
                    row.add(letter);
                }
                if (isFinal(u) != isFinal(v)) {
                    return row;
                }
            }
        }
        return null;
    }

    @Override
    void solve() {
        int[] lowest = new int[size];
        number = 0;
        for (int i = 0; i < size; i++) {
            while (tell(lowest[i], i) != null) {
                lowest[i]++;
            }
            number += lowest[i] == i ? 1 : 0;
        }
        List<Integer> word = tell(0, asked());
        reply = word == null ? 'y' : 'n';
        kept = word == null ? lowest : toArray(word);
    }

    @Override
    int judge(int[] row, boolean isWitness) {
        if (!isWitness) {
            int u = 0;
            int v = asked();
            for (int letter : row) {
                if (letter != 0 && letter != 1) {
                    return 1;
                }
                u = go(u, letter);
                v = go(v, letter);
            }
            return isFinal(u) != isFinal(v) ? 0 : 2;
        }
        if (row.length != size) {
            return 1;
        }
        for (int number : row) {
            if (number < 0 || number >= size) {
                return 1;
            }
        }
        int worst = 9;
        for (int u = 0; u < size; u++) {
            for (int v = 0; v < size; v++) {
                if (row[u] == row[v]) {
                    if (isFinal(u) != isFinal(v)) {
                        worst = Math.min(worst, 2);
                    }
                    if (row[go(u, 0)] != row[go(v, 0)] || row[go(u, 1)] != row[go(v, 1)]) {
                        worst = Math.min(worst, 3);
                    }
                }
            }
        }
        if (worst < 9) {
            return worst;
        }
        return row[0] == row[asked()] ? 0 : 4;
    }

    @Override
    int[] guess(boolean isWitness) {
        int[] row = new int[isWitness ? size : below(5)];
        for (int i = 0; i < row.length; i++) {
            row[i] = isWitness ? (below(3) == 0 ? 0 : isFinal(i) ? size - 1 : below(2) == 0 ? 0 : i) : below(2);
        }
        return row;
    }

    @Override
    void askMore(Witnessworks w, int entry) {
        for (int i = 0; i < 5; i++) {
            int one = below(size);
            int other = below(size);
            List<Integer> word = tell(one, other);
            String what = "tells " + one + " " + other + " of " + this;
            if (word == null) {
                due.fails(what, java.util.NoSuchElementException.class, () -> w.tells(entry, one, other));
            } else {
                due.is(what, word.size(), w.tells(entry, one, other));
            }
        }
    }
}
