import java.util.ArrayList;
import java.util.Arrays;
import java.util.List;

/** Kind 'p', and promise 26. */
public final class DrawingsTest extends Trial {
    private final boolean[][] near = new boolean[7][7];
    private int edges;
    private int[] drawing;

    DrawingsTest(Due due) {
        super(due);
    }

    public static void main(String[] args) {
        Due due = new Due();
        DrawingsTest trial = new DrawingsTest(due);
        trial.run(300, 3);
        trial.runHard(150);
        edges(due);
        due.end();
    }

    private static void edges(Due due) {
        Witnessworks w = new Witnessworks();
        int p = w.open('p', 5, 11);
        due.is("nothing drawn", "", Due.row(w, p));
        due.is("yes", 'y', w.answer(p));
        due.is("no walks", 0, w.number(p));
        due.fails("no walk", java.util.NoSuchElementException.class, () -> w.walk(p, 0));
        for (int a = 0; a < 5; a++) {
            for (int b = a + 1; b < 5; b++) {
                w.put(p, b, a, 0, 0, 0);
            }
        }
        due.is("five nodes", "5 0 1 2 3 4 5 6 7 8 9", Due.row(w, p));
        due.fails("no drawing", java.util.NoSuchElementException.class, () -> w.walk(p, 0));
        w.setBound(p, 9);
        due.is("without the last edge", 'y', w.answer(p));
        due.is("walks", 6, w.number(p));
        due.is("a walk", 3, w.walk(p, 5));
        due.fails("no walk", java.util.NoSuchElementException.class, () -> w.walk(p, 6));
        due.fails("no walk", java.util.NoSuchElementException.class, () -> w.walk(p, -1));
        due.fails("no entry", IndexOutOfBoundsException.class, () -> w.walk(1, 0));
        int m = w.open('m', 2, 0);
        due.fails("another kind", UnsupportedOperationException.class, () -> w.walk(m, 0));
        int one = w.open('p', 2, 1);
        w.put(one, 0, 1, 0, 0, 0);
        due.is("one edge", 2, w.walk(one, 0));
    }

    /** Graphs that are near to what cannot be drawn. */
    private void runHard(int times) {
        random = new java.util.Random(33);
        for (int time = 0; time < times; time++) {
            items.clear();
            boolean isFive = below(2) == 0;
            size = isFive ? between(5, 6) : between(6, 7);
            List<Integer> nodes = new ArrayList<>();
            for (int v = 0; v < size; v++) {
                nodes.add(v);
            }
            java.util.Collections.shuffle(nodes, random);
            for (int a = 0; a < 6; a++) {
                for (int b = a + 1; b < (isFive ? 5 : 6); b++) {
                    if (isFive || a < 3 && b >= 3) {
                        items.add(new int[] {nodes.get(a), nodes.get(b), 0, 0, 0});
                    }
                }
            }
            if (size > (isFive ? 5 : 6) && below(2) == 0) {
                int[] cut = items.remove(below(items.size()));
                int last = nodes.get(size - 1);
                items.add(new int[] {cut[0], last, 0, 0, 0});
                items.add(new int[] {last, cut[1], 0, 0, 0});
            }
            for (int i = 0; i < 4 && items.size() < 11; i++) {
                addEdge(below(size), below(size));
            }
            java.util.Collections.shuffle(items, random);
            bound = below(4) == 0 ? items.size() - 1 : 11;
            tryOut();
        }
    }

    private void addEdge(int a, int b) {
        for (int[] item : items) {
            if (item[0] == a && item[1] == b || item[0] == b && item[1] == a) {
                return;
            }
        }
        if (a != b) {
            items.add(new int[] {a, b, 1, 2, 3});
        }
    }

    @Override
    char kind() {
        return 'p';
    }

    @Override
    void make() {
        size = between(1, 7);
        int many = between(0, 14);
        for (int i = 0; i < many && items.size() < 11; i++) {
            addEdge(below(size), below(size));
        }
        bound = below(3) == 0 ? between(0, 11) : 11;
    }

    private void take(List<Integer> numbers) {
        for (boolean[] row : near) {
            Arrays.fill(row, false);
        }
        for (int number : numbers) {
            int[] item = items.get(number);
            near[item[0]][item[1]] = true;
            near[item[1]][item[0]] = true;
        }
        edges = numbers.size();
    }

    private List<Integer> counted() {
        List<Integer> numbers = new ArrayList<>();
        for (int i = 0; i < items.size() && i < bound; i++) {
            numbers.add(i);
        }
        return numbers;
    }

    private List<Integer> neighbours(int v) {
        List<Integer> list = new ArrayList<>();
        for (int u = 0; u < size; u++) {
            if (near[v][u]) {
                list.add(u);
            }
        }
        return list;
    }

    /** The walks of the rounds in a row, by the place of their lowest number. */
    private List<Integer> walks(int[] row) {
        List<int[]> goings = new ArrayList<>();
        int place = 0;
        for (int v = 0; v < size; v++) {
            for (int i = neighbours(v).size(); i > 0; i--) {
                goings.add(new int[] {v, row[place++]});
            }
        }
        List<Integer> lengths = new ArrayList<>();
        boolean[] seen = new boolean[goings.size()];
        for (int start = 0; start < seen.length; start++) {
            int many = 0;
            int at = start;
            while (!seen[at]) {
                seen[at] = true;
                many++;
                int[] going = goings.get(at);
                List<Integer> round = new ArrayList<>();
                for (int[] other : goings) {
                    if (other[0] == going[1]) {
                        round.add(other[1]);
                    }
                }
                int next = round.get((round.indexOf(going[0]) + 1) % round.size());
                for (int i = 0; i < seen.length; i++) {
                    if (goings.get(i)[0] == going[1] && goings.get(i)[1] == next) {
                        at = i;
                        break;
                    }
                }
            }
            if (many > 0) {
                lengths.add(many);
            }
        }
        return lengths;
    }

    private int due() {
        int nodes = 0;
        int parts = 0;
        boolean[] seen = new boolean[size];
        for (int v = 0; v < size; v++) {
            if (!neighbours(v).isEmpty()) {
                nodes++;
                if (!seen[v]) {
                    parts++;
                    spread(v, seen);
                }
            }
        }
        return edges - nodes + 2 * parts;
    }

    private void spread(int v, boolean[] seen) {
        seen[v] = true;
        for (int u : neighbours(v)) {
            if (!seen[u]) {
                spread(u, seen);
            }
        }
    }

    private boolean find(int[] row, int place, int node, int wanted) {
        while (node < size && neighbours(node).isEmpty()) {
            node++;
        }
        if (node == size) {
            if (walks(row).size() == wanted) {
                drawing = row.clone();
                return true;
            }
            return false;
        }
        List<Integer> list = neighbours(node);
        row[place] = list.remove(0);
        return arrange(row, place + 1, list, node, wanted);
    }

    private boolean arrange(int[] row, int place, List<Integer> left, int node, int wanted) {
        if (left.isEmpty()) {
            return find(row, place, node + 1, wanted);
        }
        for (int i = 0; i < left.size(); i++) {
            List<Integer> others = new ArrayList<>(left);
            row[place] = others.remove(i);
            if (arrange(row, place + 1, others, node, wanted)) {
                return true;
            }
        }
        return false;
    }

    private boolean isDrawable(List<Integer> numbers) {
        take(numbers);
        if (edges > 0 && size >= 3) {
            int nodes = 0;
            for (int v = 0; v < size; v++) {
                nodes += neighbours(v).isEmpty() ? 0 : 1;
            }
            if (nodes >= 3 && edges > 3 * nodes - 6) {
                return false;
            }
        }
        return find(new int[2 * edges], 0, 0, due());
    }

    @Override
    void solve() {
        List<Integer> left = counted();
        if (isDrawable(left)) {
            reply = 'y';
            kept = drawing;
            number = due();
            return;
        }
        reply = 'n';
        number = 0;
        for (int i = left.size() - 1; i >= 0; i--) {
            List<Integer> less = new ArrayList<>(left);
            less.remove(i);
            if (!isDrawable(less)) {
                left = less;
            }
        }
        take(left);
        int many = 0;
        for (int v = 0; v < size; v++) {
            many += neighbours(v).size() > 2 ? 1 : 0;
        }
        left.add(0, many == 5 ? 5 : 3);
        kept = toArray(left);
    }

    @Override
    int judge(int[] row, boolean isWitness) {
        return isWitness ? judgeDrawing(row) : judgeCore(row);
    }

    private int judgeDrawing(int[] row) {
        take(counted());
        if (row.length != 2 * edges) {
            return 1;
        }
        int place = 0;
        for (int v = 0; v < size; v++) {
            List<Integer> list = neighbours(v);
            List<Integer> found = new ArrayList<>();
            for (int i = 0; i < list.size(); i++) {
                found.add(row[place++]);
            }
            if (!list.isEmpty() && !found.get(0).equals(list.get(0))) {
                return 2;
            }
            java.util.Collections.sort(found);
            if (!found.equals(list)) {
                return 2;
            }
        }
        return walks(row).size() == due() ? 0 : 3;
    }

    private int judgeCore(int[] row) {
        int most = Math.min(bound, items.size());
        if (row.length == 0 || row[0] != 5 && row[0] != 3 || !isRising(row, 1)) {
            return 1;
        }
        List<Integer> numbers = new ArrayList<>();
        for (int i = 1; i < row.length; i++) {
            if (row[i] < 0 || row[i] >= most) {
                return 1;
            }
            numbers.add(row[i]);
        }
        take(numbers);
        List<Integer> branches = new ArrayList<>();
        for (int v = 0; v < size; v++) {
            if (neighbours(v).size() == 1) {
                return 2;
            }
            if (neighbours(v).size() > 2) {
                branches.add(v);
            }
        }
        if (branches.size() != (row[0] == 5 ? 5 : 6)) {
            return 3;
        }
        for (int v : branches) {
            if (neighbours(v).size() != (row[0] == 5 ? 4 : 3)) {
                return 3;
            }
        }
        return areWays(branches, row[0]) ? 0 : 4;
    }

    private boolean areWays(List<Integer> branches, int kind) {
        boolean[][] used = new boolean[size][size];
        boolean[][] way = new boolean[size][size];
        int many = 0;
        for (int v : branches) {
            for (int u : neighbours(v)) {
                int behind = v;
                int at = u;
                used[v][u] = true;
                many++;
                while (!branches.contains(at)) {
                    List<Integer> list = neighbours(at);
                    list.remove(Integer.valueOf(behind));
                    behind = at;
                    at = list.get(0);
                    used[behind][at] = true;
                    many++;
                }
                if (at == v || way[v][at]) {
                    return false;
                }
                way[v][at] = true;
            }
        }
        if (many != 2 * edges) {
            return false;
        }
        if (kind == 5) {
            return true;
        }
        for (int half = 0; half < 1 << size; half++) {
            boolean isGood = true;
            int inHalf = 0;
            for (int v : branches) {
                inHalf += half >> v & 1;
                for (int u : branches) {
                    isGood &= !way[v][u] || (half >> v & 1) != (half >> u & 1);
                }
            }
            if (isGood && inHalf == 3) {
                return true;
            }
        }
        return false;
    }

    @Override
    int[] guess(boolean isWitness) {
        take(counted());
        if (isWitness) {
            List<Integer> row = new ArrayList<>();
            for (int v = 0; v < size; v++) {
                List<Integer> list = neighbours(v);
                if (!list.isEmpty()) {
                    row.add(list.remove(0));
                    java.util.Collections.shuffle(list, random);
                    row.addAll(list);
                }
            }
            return toArray(row);
        }
        List<Integer> row = new ArrayList<>();
        row.add(below(2) == 0 ? 3 : 5);
        for (int number : counted()) {
            if (below(5) > 0) {
                row.add(number);
            }
        }
        return toArray(row);
    }

    @Override
    void askMore(Witnessworks w, int entry) {
        if (reply == 'y') {
            take(counted());
            List<Integer> lengths = walks(kept);
            for (int i = 0; i < lengths.size(); i++) {
                due.is("walk " + i + " of " + this, lengths.get(i), w.walk(entry, i));
            }
        }
        int none = reply == 'y' ? number : 0;
        due.fails("no walk of " + this, java.util.NoSuchElementException.class, () -> w.walk(entry, none));
    }
}
