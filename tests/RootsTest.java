import java.util.ArrayList;
import java.util.List;

/** Kind 'r', and promise 33. The second way finds the roots by cutting the line where it turns. */
public final class RootsTest extends Trial {
    private List<Double> roots;
    private List<Fraction[]> chain;

    RootsTest(Due due) {
        super(due);
    }

    public static void main(String[] args) {
        Due due = new Due();
        RootsTest trial = new RootsTest(due);
        trial.run(2500, 8);
        edges(due);
        deepest(due);
        due.end();
    }

    private static void edges(Due due) {
        Witnessworks w = new Witnessworks();
        int r = w.open('r', 1, 0);
        due.is("without an item", 'y', w.answer(r));
        due.is("no parts", 0, w.length(r));
        w.setBound(r, 1);
        due.is("no roots", 'n', w.answer(r));
        due.is("no signs", "", Due.row(w, r));
        due.is("accepted", 0, w.check(r, false));
        w.typeMore(2, 0, 0, 0, 0, 0, 0, 0, 0);
        due.is("none of such a one", 4, w.check(r, true));
        due.is("roots", 0, w.rootsIn(r, 0, 0));
        w.put(r, 0, 0, 0, 0, 77);
        due.is("no signs", "", Due.row(w, r));
        w.change(r, 0, -5, 0, 0, 0, 0);
        due.is("without z", "1 1", Due.row(w, r));
        w.change(r, 0, 0, 0, 1, 0, 0);
        due.is("nought counts once", 1, w.number(r));
        due.is("the whole line", "0 0", Due.row(w, r));
        w.setBound(r, 2);
        due.is("signs", "-1 1 1 1", Due.row(w, r));
        due.is("the upper end belongs to it", 1, w.rootsIn(r, 1, 0));
        due.is("the lower end does not", 0, w.rootsIn(r, 1, 1));
        due.fails("cuts", IllegalArgumentException.class, () -> w.rootsIn(r, 11, 0));
        due.fails("cuts", IllegalArgumentException.class, () -> w.rootsIn(r, -1, 0));
        due.fails("part", IllegalArgumentException.class, () -> w.rootsIn(r, 10, 1024));
        due.fails("part", IllegalArgumentException.class, () -> w.rootsIn(r, 3, -1));
        due.is("the last part", 0, w.rootsIn(r, 10, 1023));
        due.fails("no entry", IndexOutOfBoundsException.class, () -> w.rootsIn(1, 0, 0));
        int m = w.open('m', 2, 0);
        due.fails("another kind", UnsupportedOperationException.class, () -> w.rootsIn(m, 99, 0));
        w.change(r, 0, 0, -1, 0, 1, 0);
        due.is("three roots", 3, w.number(r));
        w.setBound(r, 0);
        due.is("parts", "4 6 4 7 1 1", Due.row(w, r));
    }

    /** The kept row must be accepted for all polynomials, so no part may be cut more than 16 times. */
    private static void deepest(Due due) {
        Witnessworks w = new Witnessworks();
        int r = w.open('r', 1, 0);
        w.put(r, 0, 0, 0, 0, 0);
        int deepest = 0;
        for (int a = -7; a <= 7; a++) {
            for (int b = -7; b <= 7; b++) {
                for (int c = -7; c <= 7; c++) {
                    for (int d = -7; d <= 7; d++) {
                        w.change(r, 0, a, b, c, d, 0);
                        w.setBound(r, 0);
                        int many = w.length(r);
                        due.is("parts of " + a + " " + b + " " + c + " " + d, 2 * w.number(r), many);
                        for (int i = 0; i < many; i += 2) {
                            deepest = Math.max(deepest, w.sign(r, i));
                        }
                    }
                }
            }
        }
        due.is("cuts are at most 16: " + deepest, true, deepest <= 16);
    }

    @Override
    char kind() {
        return 'r';
    }

    @Override
    void make() {
        size = 1;
        bound = between(0, 3);
        if (below(20) == 0) {
            return;
        }
        int[] item = new int[5];
        int way = below(4);
        for (int i = 0; i < 4; i++) {
            item[i] = below(6) == 0 ? 0 : between(-7, 7);
        }
        if (way == 0) {
            int u = between(-2, 2);
            int v = between(-1, 1);
            int t = between(-1, 1);
            item = new int[] {-u * v * t, u * v + u * t + v * t, -u - v - t, 1, 0};
        } else if (way == 1) {
            item[3] = 0;
        } else if (way == 2) {
            item[0] = -item[2] > 7 ? 0 : -item[2];
            item[1] = 0;
            item[3] = below(2);
        }
        item[4] = between(-100, 100);
        items.add(item);
    }

    private long[] polynomial() {
        long[] p = new long[4];
        for (int i = 0; i < 4 && !items.isEmpty(); i++) {
            p[i] = items.get(0)[i];
        }
        return p;
    }

    private static double at(long[] p, double z) {
        return ((p[3] * z + p[2]) * z + p[1]) * z + p[0];
    }

    /** All roots, each once: between turns there is at most one, and a turn itself may be one. */
    private void findRoots() {
        roots = new ArrayList<>();
        long[] p = polynomial();
        if (p[3] == 0 && p[2] == 0) {
            if (p[1] != 0) {
                roots.add(-(double) p[0] / p[1]);
            }
            return;
        }
        List<Double> turns = new ArrayList<>();
        turns.add(-1000.0);
        double a = 3.0 * p[3];
        double b = 2.0 * p[2];
        double c = p[1];
        double inner = b * b - 4 * a * c;
        if (a == 0) {
            turns.add(-c / b);
        } else if (inner > 0) {
            double one = (-b - Math.sqrt(inner)) / (2 * a);
            double two = (-b + Math.sqrt(inner)) / (2 * a);
            turns.add(Math.min(one, two));
            turns.add(Math.max(one, two));
        } else if (inner == 0) {
            turns.add(-b / (2 * a));
        }
        turns.add(1000.0);
        double near = 1e-9;
        for (int i = 0; i + 1 < turns.size(); i++) {
            double low = turns.get(i);
            double high = turns.get(i + 1);
            if (i > 0 && Math.abs(at(p, low)) < near) {
                roots.add(low);
                continue;
            }
            if (Math.abs(at(p, high)) < near || at(p, low) > 0 == at(p, high) > 0) {
                continue;
            }
            for (int turn = 0; turn < 200; turn++) {
                double middle = (low + high) / 2;
                if (at(p, low) > 0 == at(p, middle) > 0) {
                    low = middle;
                } else {
                    high = middle;
                }
            }
            roots.add(low);
        }
        for (int i = roots.size() - 1; i > 0; i--) {
            if (Math.abs(roots.get(i) - roots.get(i - 1)) < 1e-7) {
                roots.remove(i);
            }
        }
    }

    /** Roots within a hair of an end lie on it, as all ends are even fractions. */
    private int rootsIn(int cuts, int part) {
        int many = 0;
        double width = 16.0 / (1 << cuts);
        double low = -8 + width * part;
        double high = low + width;
        for (double root : roots) {
            boolean isLow = Math.abs(root - low) < 1e-9;
            boolean isHigh = Math.abs(root - high) < 1e-9;
            if (!isLow && (isHigh || root > low && root < high)) {
                many++;
            }
        }
        return many;
    }

    private static Fraction[] trim(Fraction[] p) {
        int length = p.length;
        while (length > 0 && p[length - 1].isNought()) {
            length--;
        }
        return java.util.Arrays.copyOf(p, length);
    }

    private static Fraction[] derivative(Fraction[] p) {
        Fraction[] d = new Fraction[Math.max(0, p.length - 1)];
        for (int i = 0; i < d.length; i++) {
            d[i] = p[i + 1].times(Fraction.of(i + 1));
        }
        return trim(d);
    }

    private static Fraction[][] divide(Fraction[] what, Fraction[] by) {
        Fraction[] rest = what.clone();
        Fraction[] often = new Fraction[Math.max(0, what.length - by.length + 1)];
        for (int shift = often.length - 1; shift >= 0; shift--) {
            often[shift] = rest[shift + by.length - 1].by(by[by.length - 1]);
            for (int i = 0; i < by.length; i++) {
                rest[shift + i] = rest[shift + i].minus(often[shift].times(by[i]));
            }
        }
        return new Fraction[][] {often, trim(rest)};
    }

    private void findChain() {
        chain = new ArrayList<>();
        long[] p = polynomial();
        Fraction[] f = new Fraction[4];
        for (int i = 0; i < 4; i++) {
            f[i] = Fraction.of(p[i]);
        }
        f = trim(f);
        if (f.length == 0) {
            return;
        }
        Fraction[] common = f;
        Fraction[] other = derivative(f);
        while (other.length > 0) {
            Fraction[] rest = divide(common, other)[1];
            common = other;
            other = rest;
        }
        Fraction[] plain = divide(f, common)[0];
        Fraction highest = plain[plain.length - 1];
        for (int i = 0; i < plain.length; i++) {
            plain[i] = plain[i].by(highest);
        }
        chain.add(plain);
        Fraction[] next = derivative(plain);
        while (next.length > 0) {
            chain.add(next);
            Fraction[] rest = divide(chain.get(chain.size() - 2), next)[1];
            for (int i = 0; i < rest.length; i++) {
                rest[i] = Fraction.of(0).minus(rest[i]);
            }
            next = rest;
        }
    }

    private static int sense(Fraction[] p, int z) {
        Fraction sum = Fraction.of(0);
        for (int i = p.length - 1; i >= 0; i--) {
            sum = sum.times(Fraction.of(z)).plus(p[i]);
        }
        return sum.over.signum();
    }

    private int[] signs() {
        int[] row = new int[2 * chain.size()];
        for (int i = 0; i < chain.size(); i++) {
            row[i] = sense(chain.get(i), -8);
            row[chain.size() + i] = sense(chain.get(i), 8);
        }
        return row;
    }

    @Override
    void solve() {
        findRoots();
        findChain();
        number = rootsIn(0, 0);
        reply = number >= bound ? 'y' : 'n';
        if (reply == 'y') {
            List<Integer> row = new ArrayList<>();
            look(0, 0, row);
            kept = toArray(row);
        } else {
            kept = signs();
        }
    }

    private void look(int cuts, int part, List<Integer> row) {
        int many = rootsIn(cuts, part);
        if (many == 1) {
            row.add(cuts);
            row.add(part);
        } else if (many > 1) {
            look(cuts + 1, 2 * part, row);
            look(cuts + 1, 2 * part + 1, row);
        }
    }

    @Override
    int judge(int[] row, boolean isWitness) {
        if (!isWitness) {
            if (row.length != 2 * chain.size()) {
                return 1;
            }
            if (!java.util.Arrays.equals(row, signs())) {
                return 2;
            }
            return rootsIn(0, 0) < bound ? 0 : 3;
        }
        if (row.length % 2 == 1) {
            return 1;
        }
        for (int i = 0; i < row.length; i += 2) {
            if (row[i] < 0 || row[i] > 16 || row[i + 1] < 0 || row[i + 1] >= 1 << row[i]) {
                return 1;
            }
        }
        for (int i = 2; i < row.length; i += 2) {
            Fraction end = Fraction.of(row[i - 1] + 1).by(Fraction.of(1 << row[i - 2]));
            Fraction begin = Fraction.of(row[i + 1]).by(Fraction.of(1 << row[i]));
            if (begin.compareTo(end) < 0) {
                return 2;
            }
        }
        if (row.length / 2 < bound) {
            return 3;
        }
        for (int i = 0; i < row.length; i += 2) {
            if (rootsIn(row[i], row[i + 1]) < 1) {
                return 4;
            }
        }
        return 0;
    }

    @Override
    int[] guess(boolean isWitness) {
        if (!isWitness) {
            return signs();
        }
        List<Integer> row = new ArrayList<>();
        int cuts = between(0, 5);
        for (int part = 0; part < 1 << cuts; part++) {
            if (rootsIn(cuts, part) > 0 || below(9) == 0) {
                row.add(cuts);
                row.add(part);
            }
        }
        return toArray(row);
    }

    @Override
    void askMore(Witnessworks w, int entry) {
        for (int i = 0; i < 6; i++) {
            int cuts = between(0, 10);
            int part = below(1 << cuts);
            due.is("roots " + cuts + " " + part + " of " + this, rootsIn(cuts, part), w.rootsIn(entry, cuts, part));
        }
        for (int part = 0; part < 8; part++) {
            due.is("roots 3 " + part + " of " + this, rootsIn(3, part), w.rootsIn(entry, 3, part));
        }
    }
}
