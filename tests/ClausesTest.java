import java.util.ArrayList;
import java.util.List;
import java.util.TreeSet;

/** Kind 's', and promises 28 and 29. */
public final class ClausesTest extends Trial {
    private List<Integer> leaves;
    private List<Integer> codes;
    private int[] guide;
    private int place;

    ClausesTest(Due due) {
        super(due);
    }

    public static void main(String[] args) {
        Due due = new Due();
        new ClausesTest(due).run(1500, 5);
        edges(due);
        due.end();
    }

    private static void edges(Due due) {
        Witnessworks w = new Witnessworks();
        int s = w.open('s', 2, 2);
        due.is("all", 4, w.number(s));
        due.is("the least", "0 0", Due.row(w, s));
        due.is("none derived", 0, w.derivations(s));
        w.put(s, 1, 2, 0, 0, 0);
        w.put(s, -1, -1, -1, 0, 0);
        w.put(s, 1, -2, 0, 0, 0);
        due.is("refuted", "0 2 1", Due.row(w, s));
        due.is("derived", 5, w.derivations(s));
        int[] all = {3, 1 + 128, 1, 64, 0};
        for (int i = 0; i < 5; i++) {
            due.is("clause " + i, all[i], w.derived(s, i));
        }
        due.fails("no clause", java.util.NoSuchElementException.class, () -> w.derived(s, 5));
        due.fails("no clause", java.util.NoSuchElementException.class, () -> w.derived(s, -1));
        due.fails("no entry", IndexOutOfBoundsException.class, () -> w.derived(1, 0));
        due.fails("no entry", IndexOutOfBoundsException.class, () -> w.derivations(1));
        int m = w.open('m', 2, 0);
        due.fails("another kind", UnsupportedOperationException.class, () -> w.derived(m, 0));
        due.fails("another kind", UnsupportedOperationException.class, () -> w.derivations(m));
        w.drop(s, 0);
        due.fails("a witness", java.util.NoSuchElementException.class, () -> w.derived(s, 0));
        int none = w.open('s', 3, 0);
        w.put(none, 3, 0, 0, 0, 0);
        due.is("bound 0", "0 -1 -1 -1", Due.row(w, none));
    }

    @Override
    char kind() {
        return 's';
    }

    @Override
    void make() {
        size = between(1, 6);
        bound = below(2) == 0 ? between(0, 6) : between(0, Math.min(size, 2));
        int many = between(0, 12);
        for (int i = 0; i < many; i++) {
            int[] item = {between(-size, size), between(-size, size), between(-size, size), 99, -99};
            if (below(2) == 0) {
                item[2] = 0;
            }
            if (below(3) == 0) {
                item[0] = 0;
            }
            if (item[0] != 0 || item[1] != 0 || item[2] != 0) {
                items.add(item);
            }
        }
    }

    /** 1 if a sign holds, 0 if all are known not to hold, otherwise -1. Unknown truths are -1. */
    private int look(int[] item, int[] truths) {
        boolean isOpen = false;
        for (int i = 0; i < 3; i++) {
            if (item[i] != 0) {
                int truth = truths[Math.abs(item[i]) - 1];
                if (truth < 0) {
                    isOpen = true;
                } else if (truth == 1 == item[i] > 0) {
                    return 1;
                }
            }
        }
        return isOpen ? -1 : 0;
    }

    private int ones(int[] truths) {
        int many = 0;
        for (int truth : truths) {
            many += truth == 1 ? 1 : 0;
        }
        return many;
    }

    @Override
    void solve() {
        number = 0;
        kept = null;
        for (int told = 0; told < 1 << size; told++) {
            int[] truths = new int[size];
            for (int i = 0; i < size; i++) {
                truths[i] = told >> size - 1 - i & 1;
            }
            if (judge(truths, true) == 0) {
                number++;
                kept = kept == null ? truths : kept;
            }
        }
        reply = number > 0 ? 'y' : 'n';
        leaves = new ArrayList<>();
        codes = new ArrayList<>();
        if (reply == 'n') {
            int[] truths = new int[size];
            java.util.Arrays.fill(truths, -1);
            derive(truths, 0);
            kept = toArray(leaves);
        }
    }

    /** A clause as the set of its signs. */
    private TreeSet<Integer> derive(int[] truths, int truth) {
        TreeSet<Integer> clause = new TreeSet<>();
        for (int i = 0; i < items.size(); i++) {
            if (look(items.get(i), truths) == 0) {
                for (int j = 0; j < 3; j++) {
                    clause.add(items.get(i)[j]);
                }
                clause.remove(0);
                leaves.add(i);
                return keep(clause);
            }
        }
        if (ones(truths) > bound) {
            for (int i = 0; i < size; i++) {
                if (truths[i] == 1) {
                    clause.add(-i - 1);
                }
            }
            leaves.add(-1);
            return keep(clause);
        }
        truths[truth] = 0;
        TreeSet<Integer> side0 = derive(truths, truth + 1);
        truths[truth] = 1;
        TreeSet<Integer> side1 = derive(truths, truth + 1);
        truths[truth] = -1;
        if (side0.contains(truth + 1) && side1.contains(-truth - 1)) {
            clause.addAll(side0);
            clause.remove(truth + 1);
            TreeSet<Integer> others = new TreeSet<>(side1);
            others.remove(-truth - 1);
            clause.addAll(others);
            return keep(clause);
        }
        return keep(side0.contains(truth + 1) ? side1 : side0);
    }

    private TreeSet<Integer> keep(TreeSet<Integer> clause) {
        int code = 0;
        for (int sign : clause) {
            code += sign > 0 ? 1 << sign - 1 : 64 << -sign - 1;
        }
        codes.add(code);
        return clause;
    }

    @Override
    int judge(int[] row, boolean isWitness) {
        if (isWitness) {
            if (row.length != size) {
                return 1;
            }
            for (int number : row) {
                if (number != 0 && number != 1) {
                    return 1;
                }
            }
            if (ones(row) > bound) {
                return 2;
            }
            for (int[] item : items) {
                if (look(item, row) != 1) {
                    return 3;
                }
            }
            return 0;
        }
        for (int number : row) {
            if (number < -1 || number >= items.size()) {
                return 1;
            }
        }
        guide = row;
        place = 0;
        int[] truths = new int[size];
        java.util.Arrays.fill(truths, -1);
        if (!follow(truths, 0)) {
            return 2;
        }
        return place == row.length ? 0 : 3;
    }

    private boolean follow(int[] truths, int truth) {
        if (place == guide.length) {
            return false;
        }
        int next = guide[place];
        if (next >= 0 ? look(items.get(next), truths) == 0 : ones(truths) > bound) {
            place++;
            return true;
        }
        if (truth == size) {
            return false;
        }
        truths[truth] = 0;
        boolean isDone = follow(truths, truth + 1);
        truths[truth] = 1;
        isDone = isDone && follow(truths, truth + 1);
        truths[truth] = -1;
        return isDone;
    }

    @Override
    int[] guess(boolean isWitness) {
        int[] row = new int[isWitness ? size : below(4)];
        for (int i = 0; i < row.length; i++) {
            row[i] = isWitness ? below(2) : between(-1, items.size() - 1);
        }
        return row;
    }

    @Override
    void askMore(Witnessworks w, int entry) {
        due.is("derivations " + this, codes.size(), w.derivations(entry));
        for (int i = 0; i < codes.size(); i++) {
            due.is("derived " + i + " of " + this, codes.get(i), w.derived(entry, i));
        }
        if (reply == 'n') {
            due.is("the last of " + this, 0, w.derived(entry, codes.size() - 1));
        }
    }
}
