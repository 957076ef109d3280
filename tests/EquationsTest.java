import java.util.Arrays;

/** Kind 'd', and promise 30. */
public final class EquationsTest extends Trial {
    EquationsTest(Due due) {
        super(due);
    }

    public static void main(String[] args) {
        Due due = new Due();
        new EquationsTest(due).run(1500, 6);
        edges(due);
        due.end();
    }

    private static void edges(Due due) {
        Witnessworks w = new Witnessworks();
        int d = w.open('d', 3, -40);
        due.is("no items", "0 0 0", Due.row(w, d));
        due.is("number", 0, w.number(d));
        due.is("gap", 1, w.gap(d, 2));
        w.put(d, 2, 0, 4, 9, 3);
        due.is("the bound in place of e", "0 0 -10", Due.row(w, d));
        due.is("gap", 2, w.gap(d, 0));
        due.is("gap", 1, w.gap(d, 1));
        due.is("gap", 1, w.gap(d, 2));
        w.put(d, 0, 1, 0, 0, 0);
        due.is("e where it is not last", "2 1 0", Due.row(w, d));
        due.is("modulus", 2, w.number(d));
        due.fails("a refutation", java.util.NoSuchElementException.class, () -> w.gap(d, 0));
        due.fails("no unknown", IllegalArgumentException.class, () -> w.gap(d, 3));
        due.fails("no unknown", IllegalArgumentException.class, () -> w.gap(d, -1));
        due.fails("no entry", IndexOutOfBoundsException.class, () -> w.gap(1, 0));
        int m = w.open('m', 2, 0);
        due.fails("another kind", UnsupportedOperationException.class, () -> w.gap(m, 9));
        int one = w.open('d', 1, 4);
        w.put(one, 2, 0, 0, 0, 0);
        due.is("no gap", 0, w.gap(one, 0));
        int tie = w.open('d', 2, 3);
        w.put(tie, 1, 6, 0, 0, 0);
        due.is("of two of one amount that above 0", "3 0", Due.row(w, tie));
    }

    @Override
    char kind() {
        return 'd';
    }

    @Override
    void make() {
        size = between(1, 4);
        bound = below(2) == 0 ? between(-40, 40) : between(-6, 6);
        int many = below(8) == 0 ? 0 : between(1, 2);
        for (int i = 0; i < many; i++) {
            int most = below(3) == 0 ? 2 : 6;
            int[] item = new int[5];
            for (int j = 0; j < 4; j++) {
                item[j] = below(4) == 0 ? 0 : between(-most, most);
            }
            item[4] = between(-20, 20);
            items.add(item);
        }
        if (many == 2 && below(4) == 0) {
            int times = between(-2, 2);
            for (int j = 0; j < 4; j++) {
                items.get(0)[j] = Math.max(-3, Math.min(3, items.get(0)[j]));
                items.get(1)[j] = times * items.get(0)[j];
            }
        }
    }

    private long side(int item) {
        return item == items.size() - 1 ? bound : items.get(item)[4];
    }

    private static long common(long a, long b) {
        return b == 0 ? Math.abs(a) : common(b, a % b);
    }

    /** By divisors in common of parts of the table, with the first unknowns told already. */
    private boolean isSolvable(long[] sides, int from) {
        int many = items.size();
        long one = 0;
        long oneAll = 0;
        for (int i = 0; i < many; i++) {
            for (int j = from; j < size; j++) {
                one = common(one, items.get(i)[j]);
            }
            oneAll = common(oneAll, sides[i]);
        }
        oneAll = common(oneAll, one);
        if (many == 2) {
            long two = 0;
            long twoAll = 0;
            for (int j = from; j < size; j++) {
                long a = items.get(0)[j];
                long b = items.get(1)[j];
                for (int k = from; k < j; k++) {
                    two = common(two, a * items.get(1)[k] - b * items.get(0)[k]);
                }
                twoAll = common(twoAll, a * sides[1] - b * sides[0]);
            }
            twoAll = common(twoAll, two);
            if (two != 0 || twoAll != 0) {
                return two == twoAll;
            }
        }
        return one == oneAll;
    }

    private long[] left(long[] sides, int unknown, long is) {
        long[] less = sides.clone();
        for (int i = 0; i < less.length; i++) {
            less[i] -= items.get(i)[unknown] * is;
        }
        return less;
    }

    @Override
    void solve() {
        long[] sides = new long[items.size()];
        for (int i = 0; i < sides.length; i++) {
            sides[i] = side(i);
        }
        if (!isSolvable(sides, 0)) {
            reply = 'n';
            refute();
            number = kept[0];
            return;
        }
        reply = 'y';
        number = 0;
        kept = new int[size];
        for (int j = 0; j < size; j++) {
            int amount = 0;
            while (true) {
                if (isSolvable(left(sides, j, amount), j + 1)) {
                    break;
                }
                amount = amount > 0 ? -amount : 1 - amount;
            }
            kept[j] = amount;
            sides = left(sides, j, amount);
        }
    }

    private void refute() {
        for (int modulus = 2;; modulus++) {
            int[] row = new int[items.size() + 1];
            row[0] = modulus;
            while (true) {
                if (judge(row, false) == 0) {
                    kept = row;
                    return;
                }
                int at = row.length - 1;
                while (at > 0 && row[at] == modulus - 1) {
                    row[at--] = 0;
                }
                if (at == 0) {
                    break;
                }
                row[at]++;
            }
        }
    }

    @Override
    int judge(int[] row, boolean isWitness) {
        if (isWitness) {
            if (row.length != size) {
                return 1;
            }
            for (int i = 0; i < items.size(); i++) {
                long sum = 0;
                for (int j = 0; j < size; j++) {
                    sum += (long) items.get(i)[j] * row[j];
                }
                if (sum != side(i)) {
                    return 2;
                }
            }
            return 0;
        }
        if (row.length != items.size() + 1 || row[0] < 2) {
            return 1;
        }
        long right = 0;
        for (int i = 0; i < items.size(); i++) {
            right += side(i) * row[i + 1];
        }
        for (int j = 0; j < size; j++) {
            long sum = 0;
            for (int i = 0; i < items.size(); i++) {
                sum += (long) items.get(i)[j] * row[i + 1];
            }
            if (Math.floorMod(sum, (long) row[0]) != 0) {
                return 2;
            }
        }
        return Math.floorMod(right, (long) row[0]) != 0 ? 0 : 3;
    }

    @Override
    int[] guess(boolean isWitness) {
        int[] row = new int[isWitness ? size : items.size() + 1];
        for (int i = 0; i < row.length; i++) {
            row[i] = isWitness ? between(-4, 4) : between(0, 7);
        }
        return row;
    }

    @Override
    void askMore(Witnessworks w, int entry) {
        for (int j = 0; j < size; j++) {
            int unknown = j;
            if (reply == 'n') {
                due.fails("gap of " + this, java.util.NoSuchElementException.class, () -> w.gap(entry, unknown));
            } else {
                due.is("gap " + j + " of " + this, gap(j), w.gap(entry, j));
            }
        }
    }

    /** How much more it can be: the others, moved to its place, must make up for it. */
    private int gap(int unknown) {
        for (int[] item : items) {
            int other = item[0];
            item[0] = item[unknown];
            item[unknown] = other;
        }
        int found = 0;
        for (int gap = 1; gap < 400 && found == 0; gap++) {
            if (isSolvable(left(new long[items.size()], 0, gap), 1)) {
                found = gap;
            }
        }
        for (int[] item : items) {
            int other = item[0];
            item[0] = item[unknown];
            item[unknown] = other;
        }
        return found;
    }
}
