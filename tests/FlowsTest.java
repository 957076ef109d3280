import java.util.ArrayList;
import java.util.List;

/** Kind 'f', and promise 25. */
public final class FlowsTest extends Trial {
    FlowsTest(Due due) {
        super(due);
    }

    public static void main(String[] args) {
        Due due = new Due();
        new FlowsTest(due).run(500, 2);
        edges(due);
        due.end();
    }

    private static void edges(Due due) {
        Witnessworks w = new Witnessworks();
        int f = w.open('f', 2, 0);
        due.is("nothing flows", 'y', w.answer(f));
        w.setBound(f, 1);
        due.is("a bar", "0", Due.row(w, f));
        w.put(f, 0, 1, 6, 0, 0);
        due.is("narrow", true, w.isNarrow(f, 0));
        due.fails("no item", java.util.NoSuchElementException.class, () -> w.isNarrow(f, 1));
        due.fails("no item", java.util.NoSuchElementException.class, () -> w.isNarrow(f, -1));
        due.fails("no entry", IndexOutOfBoundsException.class, () -> w.isNarrow(-1, 0));
        int m = w.open('m', 3, 0);
        due.fails("another kind", UnsupportedOperationException.class, () -> w.isNarrow(m, 0));
        int wide = w.open('f', 2, 60);
        for (int i = 0; i < 10; i++) {
            w.put(wide, 0, 1, 6, 0, 0);
        }
        due.is("sixty", 60, w.number(wide));
        due.is("sixty flow", 'y', w.answer(wide));
    }

    @Override
    char kind() {
        return 'f';
    }

    @Override
    void make() {
        size = between(2, 7);
        int many = between(0, 7);
        int most = many > 5 ? 2 : 4;
        for (int i = 0; i < many; i++) {
            int a = below(size);
            int b = below(size);
            if (a != b) {
                items.add(new int[] {a, b, below(most + 1), 7, -7});
            }
        }
        bound = between(0, 6);
    }

    private int lets(int set, int extra) {
        int sum = 0;
        for (int i = 0; i < items.size(); i++) {
            int[] item = items.get(i);
            if ((set >> item[0] & 1) == 1 && (set >> item[1] & 1) == 0) {
                sum += item[2] + (i == extra ? 1 : 0);
            }
        }
        return sum;
    }

    private int leastBar(int extra) {
        int least = Integer.MAX_VALUE;
        for (int set = 1; set < 1 << size - 1; set += 2) {
            least = Math.min(least, lets(set, extra));
        }
        return least;
    }

    @Override
    void solve() {
        number = leastBar(-1);
        reply = bound <= number ? 'y' : 'n';
        if (reply == 'y') {
            kept = null;
            goThrough(new int[items.size()], 0);
            return;
        }
        int inAll = (1 << size) - 1;
        for (int set = 1; set < 1 << size - 1; set += 2) {
            inAll &= lets(set, -1) == number ? set : -1;
        }
        List<Integer> nodes = new ArrayList<>();
        for (int v = 0; v < size; v++) {
            if ((inAll >> v & 1) == 1) {
                nodes.add(v);
            }
        }
        kept = toArray(nodes);
    }

    private void goThrough(int[] row, int place) {
        if (kept != null) {
            return;
        }
        if (place == row.length) {
            if (judge(row, true) == 0) {
                kept = row.clone();
            }
            return;
        }
        for (int gets = 0; gets <= items.get(place)[2]; gets++) {
            row[place] = gets;
            goThrough(row, place + 1);
        }
    }

    @Override
    int judge(int[] row, boolean isWitness) {
        if (isWitness) {
            if (row.length != items.size()) {
                return 1;
            }
            long[] more = new long[size];
            for (int i = 0; i < row.length; i++) {
                if (row[i] < 0 || row[i] > items.get(i)[2]) {
                    return 2;
                }
                more[items.get(i)[0]] += row[i];
                more[items.get(i)[1]] -= row[i];
            }
            for (int v = 1; v < size - 1; v++) {
                if (more[v] != 0) {
                    return 3;
                }
            }
            return more[0] == bound ? 0 : 4;
        }
        int set = 0;
        for (int v : row) {
            if (v < 0 || v > size - 2) {
                return 1;
            }
            set |= 1 << v;
        }
        if (!isRising(row, 0) || (set & 1) == 0) {
            return 1;
        }
        return lets(set, -1) < bound ? 0 : 2;
    }

    @Override
    int[] guess(boolean isWitness) {
        if (isWitness) {
            int[] row = new int[items.size()];
            for (int i = 0; i < row.length; i++) {
                row[i] = below(items.get(i)[2] + 1);
            }
            return row;
        }
        List<Integer> nodes = new ArrayList<>();
        nodes.add(0);
        for (int v = 1; v < size - 1; v++) {
            if (below(2) == 0) {
                nodes.add(v);
            }
        }
        return toArray(nodes);
    }

    @Override
    void askMore(Witnessworks w, int entry) {
        for (int i = 0; i < items.size(); i++) {
            due.is("narrow " + i + " of " + this, leastBar(i) > number, w.isNarrow(entry, i));
        }
    }
}
