import java.util.ArrayList;
import java.util.Arrays;
import java.util.List;

/** Kind 'm', and promise 24. */
public final class PairingsTest extends Trial {
    private int fewest;
    private int leftAlone;

    PairingsTest(Due due) {
        super(due);
    }

    public static void main(String[] args) {
        Due due = new Due();
        new PairingsTest(due).run(700, 1);
        edges(due);
        due.end();
    }

    private static void edges(Due due) {
        Witnessworks w = new Witnessworks();
        int m = w.open('m', 3, 0);
        w.put(m, 0, 1, 0, 0, 0);
        w.put(m, 2, 1, 0, 0, 0);
        due.is("a path of three", "n", "" + w.answer(m));
        due.is("what bars it", "1", Due.row(w, m));
        due.is("part", "dad", "" + w.part(m, 0) + w.part(m, 1) + w.part(m, 2));
        due.fails("no entry", IndexOutOfBoundsException.class, () -> w.part(1, 0));
        due.fails("no node", IllegalArgumentException.class, () -> w.part(m, 3));
        due.fails("no node", IllegalArgumentException.class, () -> w.part(m, -1));
        int f = w.open('f', 3, 0);
        due.fails("another kind", UnsupportedOperationException.class, () -> w.part(f, 9));
        w.setBound(m, 1);
        due.is("one alone", "0 2 1", Due.row(w, m));
    }

    @Override
    char kind() {
        return 'm';
    }

    @Override
    void make() {
        size = between(1, 9);
        bound = below(4) == 0 ? between(0, 9) : between(0, Math.min(3, size));
        int many = between(0, 16);
        for (int i = 0; i < many; i++) {
            int a = below(size);
            int b = below(size);
            if (a != b && !hasEdge(a, b)) {
                items.add(new int[] {a, b, between(-9, 9), 0, Integer.MIN_VALUE});
            }
        }
    }

    private boolean hasEdge(int a, int b) {
        for (int[] item : items) {
            if (item[0] == a && item[1] == b || item[0] == b && item[1] == a) {
                return true;
            }
        }
        return false;
    }

    @Override
    void solve() {
        fewest = size + 1;
        leftAlone = 0;
        kept = null;
        goThrough(new int[size], 0, 0);
        number = fewest;
        reply = fewest <= bound ? 'y' : 'n';
        if (reply == 'n') {
            List<Integer> found = new ArrayList<>();
            for (int v = 0; v < size; v++) {
                if (letter(v) == 'a') {
                    found.add(v);
                }
            }
            kept = toArray(found);
        }
    }

    private char letter(int node) {
        if ((leftAlone >> node & 1) == 1) {
            return 'd';
        }
        for (int v = 0; v < size; v++) {
            if (hasEdge(node, v) && (leftAlone >> v & 1) == 1) {
                return 'a';
            }
        }
        return 'c';
    }

    private void goThrough(int[] row, int done, int node) {
        if (node == size) {
            int alone = 0;
            for (int v = 0; v < size; v++) {
                alone += row[v] == v ? 1 : 0;
            }
            if (alone < fewest) {
                fewest = alone;
                kept = null;
                leftAlone = 0;
            }
            if (alone == fewest) {
                for (int v = 0; v < size; v++) {
                    leftAlone |= row[v] == v ? 1 << v : 0;
                }
                if (kept == null || isLess(row, kept)) {
                    kept = row.clone();
                }
            }
            return;
        }
        if ((done >> node & 1) == 1) {
            goThrough(row, done, node + 1);
            return;
        }
        row[node] = node;
        goThrough(row, done | 1 << node, node + 1);
        for (int v = node + 1; v < size; v++) {
            if ((done >> v & 1) == 0 && hasEdge(node, v)) {
                row[node] = v;
                row[v] = node;
                goThrough(row, done | 1 << node | 1 << v, node + 1);
            }
        }
    }

    @Override
    int judge(int[] row, boolean isWitness) {
        if (isWitness) {
            if (row.length != size || Arrays.stream(row).anyMatch(v -> v < 0 || v >= size)) {
                return 1;
            }
            int alone = 0;
            boolean hasAll = true;
            for (int v = 0; v < size; v++) {
                if (row[row[v]] != v) {
                    return 2;
                }
                alone += row[v] == v ? 1 : 0;
                hasAll &= row[v] == v || hasEdge(v, row[v]);
            }
            return !hasAll ? 3 : alone > bound ? 4 : 0;
        }
        if (Arrays.stream(row).anyMatch(v -> v < 0 || v >= size) || !isRising(row, 0)) {
            return 1;
        }
        boolean[] seen = new boolean[size];
        for (int v : row) {
            seen[v] = true;
        }
        int odd = 0;
        for (int v = 0; v < size; v++) {
            if (!seen[v]) {
                odd += spread(v, seen) % 2;
            }
        }
        return odd > bound + row.length ? 0 : 2;
    }

    private int spread(int node, boolean[] seen) {
        seen[node] = true;
        int many = 1;
        for (int v = 0; v < size; v++) {
            if (!seen[v] && hasEdge(node, v)) {
                many += spread(v, seen);
            }
        }
        return many;
    }

    @Override
    int[] guess(boolean isWitness) {
        if (isWitness) {
            int[] row = new int[size];
            for (int v = 0; v < size; v++) {
                row[v] = v;
            }
            for (int i = 0; i < 3 && !items.isEmpty(); i++) {
                int[] item = items.get(below(items.size()));
                if (row[item[0]] == item[0] && row[item[1]] == item[1]) {
                    row[item[0]] = item[1];
                    row[item[1]] = item[0];
                }
            }
            return row;
        }
        List<Integer> nodes = new ArrayList<>();
        for (int v = 0; v < size; v++) {
            if (below(3) == 0) {
                nodes.add(v);
            }
        }
        return toArray(nodes);
    }

    @Override
    void askMore(Witnessworks w, int entry) {
        for (int v = 0; v < size; v++) {
            due.is("part " + v + " of " + this, letter(v), w.part(entry, v));
        }
    }
}
