import java.util.ArrayList;
import java.util.Arrays;
import java.util.Collections;
import java.util.List;
import java.util.Map;
import java.util.TreeMap;
import java.util.TreeSet;

/** Kind 'g', and promise 34. */
public final class PermutationsTest extends Trial {
    private Map<String, List<Integer>> words;

    PermutationsTest(Due due) {
        super(due);
    }

    public static void main(String[] args) {
        Due due = new Due();
        new PermutationsTest(due).run(700, 9);
        edges(due);
        due.end();
    }

    private static void edges(Due due) {
        Witnessworks w = new Witnessworks();
        int g = w.open('g', 6, 4);
        due.is("without items", "", Due.row(w, g));
        due.is("yes", 'y', w.answer(g));
        due.is("one", 1, w.number(g));
        w.put(g, 1, 2, 3, 4, 5);
        due.is("the item 0 is not used", 'n', w.answer(g));
        due.is("refuted", "1 0", Due.row(w, g));
        due.is("orbit", 1, w.orbit(g, 5));
        w.put(g, 1, 2, 3, 4, 5);
        due.is("six", 6, w.number(g));
        due.is("orbit", 6, w.orbit(g, 5));
        w.put(g, 1, 0, 2, 3, 4);
        due.is("all", 720, w.number(g));
        w.setBound(g, 0);
        due.is("none used", 1, w.number(g));
        due.fails("no point", IllegalArgumentException.class, () -> w.orbit(g, 6));
        due.fails("no point", IllegalArgumentException.class, () -> w.orbit(g, -1));
        due.fails("no entry", IndexOutOfBoundsException.class, () -> w.orbit(1, 0));
        int m = w.open('m', 2, 0);
        due.fails("another kind", UnsupportedOperationException.class, () -> w.orbit(m, 9));
        int even = w.open('g', 6, 4);
        w.put(even, 1, 0, 2, 3, 4);
        w.put(even, 1, 2, 0, 3, 4);
        w.put(even, 0, 2, 3, 1, 4);
        w.put(even, 0, 1, 3, 4, 2);
        w.put(even, 0, 1, 2, 4, 5);
        due.is("half of all", 360, w.number(even));
        due.is("five points tell", "5", Due.row(w, even).split(" ")[0]);
        due.is("rows", 361, w.length(even));
        due.fails("too long", UnsupportedOperationException.class, () -> w.borrow(even));
        due.is("sound", true, w.isSound());
    }

    @Override
    char kind() {
        return 'g';
    }

    @Override
    void make() {
        size = between(2, below(4) == 0 ? 6 : 5);
        bound = between(0, 4);
        int many = between(0, 5);
        List<Integer> points = new ArrayList<>();
        for (int i = 0; i < size; i++) {
            points.add(i);
        }
        int still = below(3) == 0 ? between(1, size - 1) : 0;
        for (int i = 0; i < many; i++) {
            if (i > 0 && still > 0) {
                Collections.shuffle(points.subList(0, still), random);
                Collections.shuffle(points.subList(still, size), random);
            } else {
                Collections.shuffle(points, random);
            }
            if (i == 0) {
                items.add(told(points));
                Collections.sort(points);
            } else {
                items.add(told(points));
                if (below(3) == 0) {
                    Collections.sort(points);
                    Collections.swap(points, 0, still > 1 ? 1 : 0);
                    items.set(i, told(points));
                    Collections.sort(points);
                }
                Collections.sort(points);
            }
        }
    }

    private int[] told(List<Integer> points) {
        int[] item = {-7, 99, 0, 0, 0};
        for (int i = 0; i < size && i < 5; i++) {
            item[i] = points.get(i);
        }
        return item;
    }

    private int[] leads(int item) {
        int[] row = new int[size];
        int last = 15;
        for (int i = 0; i < size && i < 5; i++) {
            row[i] = items.get(item)[i];
            last -= row[i];
        }
        if (size == 6) {
            row[5] = last;
        }
        return row;
    }

    private int[] asked() {
        return items.isEmpty() ? still() : leads(0);
    }

    private int[] still() {
        int[] row = new int[size];
        for (int i = 0; i < size; i++) {
            row[i] = i;
        }
        return row;
    }

    private int used() {
        return Math.min(bound, items.size() - 1);
    }

    private int[] then(int[] row, int item) {
        int[] leads = leads(item);
        int[] next = new int[row.length];
        for (int i = 0; i < row.length; i++) {
            next[i] = leads[row[i]];
        }
        return next;
    }

    private static int code(int[] row, int many) {
        int sum = 0;
        for (int i = 0; i < many; i++) {
            sum += row[i] * (int) Math.round(Math.pow(6, many - 1 - i));
        }
        return sum;
    }

    @Override
    void solve() {
        words = new TreeMap<>();
        List<int[]> rows = new ArrayList<>();
        List<List<Integer>> by = new ArrayList<>();
        rows.add(still());
        by.add(new ArrayList<>());
        words.put(Arrays.toString(still()), by.get(0));
        for (int done = 0; done < rows.size(); done++) {
            for (int item = 1; item <= used(); item++) {
                int[] next = then(rows.get(done), item);
                List<Integer> word = new ArrayList<>(by.get(done));
                word.add(item);
                List<Integer> old = words.get(Arrays.toString(next));
                if (old == null) {
                    words.put(Arrays.toString(next), word);
                    rows.add(next);
                    by.add(word);
                } else if (old.size() == word.size() && isLess(toArray(word), toArray(old))) {
                    throw new IllegalStateException("not the least word first");
                }
            }
        }
        number = rows.size();
        List<Integer> word = words.get(Arrays.toString(asked()));
        reply = word != null ? 'y' : 'n';
        if (word != null) {
            kept = toArray(word);
            return;
        }
        for (int many = 1;; many++) {
            TreeSet<Integer> codes = new TreeSet<>();
            for (int[] row : rows) {
                codes.add(code(row, many));
            }
            if (!codes.contains(code(asked(), many))) {
                List<Integer> list = new ArrayList<>(codes);
                list.add(0, many);
                kept = toArray(list);
                return;
            }
        }
    }

    @Override
    int judge(int[] row, boolean isWitness) {
        if (isWitness) {
            int[] at = still();
            for (int item : row) {
                if (item < 1 || item > used()) {
                    return 1;
                }
            }
            for (int item : row) {
                at = then(at, item);
            }
            return Arrays.equals(at, asked()) ? 0 : 2;
        }
        if (row.length == 0 || row[0] < 1 || row[0] > size || !isRising(row, 1)) {
            return 1;
        }
        int many = row[0];
        List<int[]> rows = new ArrayList<>();
        for (int i = 1; i < row.length; i++) {
            int[] points = points(row[i], many);
            if (points == null) {
                return 1;
            }
            rows.add(points);
        }
        if (!holds(row, 1, code(still(), many))) {
            return 2;
        }
        for (int[] points : rows) {
            for (int item = 1; item <= used(); item++) {
                if (!holds(row, 1, code(then(points, item), many))) {
                    return 3;
                }
            }
        }
        return holds(row, 1, code(asked(), many)) ? 4 : 0;
    }

    private int[] points(int code, int many) {
        for (int[] row : rowsOf(many, new int[0])) {
            if (code(row, many) == code) {
                return row;
            }
        }
        return null;
    }

    private List<int[]> rowsOf(int many, int[] begun) {
        List<int[]> all = new ArrayList<>();
        if (begun.length == many) {
            all.add(begun);
            return all;
        }
        for (int point = 0; point < size; point++) {
            if (!holds(begun, 0, point)) {
                int[] longer = Arrays.copyOf(begun, begun.length + 1);
                longer[begun.length] = point;
                all.addAll(rowsOf(many, longer));
            }
        }
        return all;
    }

    @Override
    int[] guess(boolean isWitness) {
        if (isWitness) {
            int[] row = new int[below(5)];
            for (int i = 0; i < row.length; i++) {
                row[i] = used() < 1 ? 1 : between(1, used());
            }
            return row;
        }
        int many = between(1, Math.min(2, size));
        TreeSet<Integer> codes = new TreeSet<>();
        for (int[] row : rowsOf(many, new int[0])) {
            if (below(4) > 0) {
                codes.add(code(row, many));
            }
        }
        List<Integer> list = new ArrayList<>(codes);
        list.add(0, many);
        return toArray(list);
    }

    @Override
    void askMore(Witnessworks w, int entry) {
        for (int point = 0; point < size; point++) {
            TreeSet<Integer> reached = new TreeSet<>();
            for (String text : words.keySet()) {
                reached.add(Integer.valueOf(text.replaceAll("[^0-9,]", "").split(",")[point]));
            }
            due.is("orbit " + point + " of " + this, reached.size(), w.orbit(entry, point));
        }
    }
}
