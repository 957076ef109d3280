import java.math.BigInteger;
import java.util.ArrayList;
import java.util.Arrays;
import java.util.List;

/** Kind 'l', and promise 27. The second way goes through all corners, in exact fractions. */
public final class InequalitiesTest extends Trial {
    private int mostItems = 5;

    InequalitiesTest(Due due) {
        super(due);
    }

    public static void main(String[] args) {
        Due due = new Due();
        InequalitiesTest trial = new InequalitiesTest(due);
        trial.run(400, 4);
        trial.mostItems = 12;
        trial.run(250, 44);
        edges(due);
        due.end();
    }

    private static void edges(Due due) {
        Witnessworks w = new Witnessworks();
        int l = w.open('l', 2, 0);
        due.is("all nought", "1 0 0", Due.row(w, l));
        due.is("number", 0, w.number(l));
        due.is("the sum is tight", true, w.isTight(l, 0));
        due.fails("no inequality", java.util.NoSuchElementException.class, () -> w.isTight(l, 1));
        due.fails("no inequality", java.util.NoSuchElementException.class, () -> w.isTight(l, -1));
        due.fails("no entry", IndexOutOfBoundsException.class, () -> w.isTight(1, 0));
        w.put(l, -2, -3, 9, 9, -1);
        due.is("refuted", "1 1 3", Due.row(w, l));
        due.is("number", 0, w.number(l));
        due.fails("a refutation", java.util.NoSuchElementException.class, () -> w.isTight(l, 0));
        w.setBound(l, 1);
        due.is("a third", "3 0 1", Due.row(w, l));
        due.is("tight", true, w.isTight(l, 0));
        due.is("not tight", false, w.isTight(l, 1));
        due.is("number", 1, w.number(l));
        int m = w.open('m', 2, 0);
        due.fails("another kind", UnsupportedOperationException.class, () -> w.isTight(m, 5));
    }

    @Override
    char kind() {
        return 'l';
    }

    @Override
    void make() {
        size = between(1, 4);
        bound = below(3) == 0 ? between(0, 40) : between(0, 6);
        int many = mostItems == 5 ? between(0, size > 2 ? 4 : 5) : between(5, 12);
        int most = below(2) == 0 ? 9 : 3;
        for (int i = 0; i < many; i++) {
            int e = below(3) == 0 ? between(-60, 60) : between(-8, 12);
            items.add(new int[] {between(-most, most), between(-most, most), between(-most, most),
                between(-most, most), e});
        }
    }

    private int times(int item, int unknown) {
        return item < items.size() ? items.get(item)[unknown] : 1;
    }

    private int limit(int item) {
        return item < items.size() ? items.get(item)[4] : bound;
    }

    /** Rows of "at most": the items, the sum, and that no unknown is below 0. */
    private int[][] unknownRows() {
        int all = items.size() + 1 + size;
        int[][] rows = new int[all][size];
        for (int i = 0; i <= items.size(); i++) {
            for (int j = 0; j < size; j++) {
                rows[i][j] = times(i, j);
            }
        }
        for (int j = 0; j < size; j++) {
            rows[items.size() + 1 + j][j] = -1;
        }
        return rows;
    }

    private int[] unknownSides() {
        int[] sides = new int[items.size() + 1 + size];
        for (int i = 0; i <= items.size(); i++) {
            sides[i] = limit(i);
        }
        return sides;
    }

    /** Corners of weights have at most one more of them above 0 than there are unknowns. */
    private Fraction[] leastWeights() {
        int many = items.size() + 1;
        int[][] columns = new int[many + size][size + 1];
        for (int i = 0; i < many; i++) {
            for (int j = 0; j < size; j++) {
                columns[i][j] = times(i, j);
                columns[many + j][j] = -1;
            }
            columns[i][size] = limit(i);
        }
        return leastWeights(columns, many, new ArrayList<>(), 0, null);
    }

    private Fraction[] leastWeights(int[][] columns, int many, List<Integer> taken, int from, Fraction[] least) {
        int all = size + 1;
        if (taken.size() < all) {
            for (int i = from; i < columns.length; i++) {
                taken.add(i);
                least = leastWeights(columns, many, taken, i + 1, least);
                taken.remove(taken.size() - 1);
            }
            return least;
        }
        int[][] rows = new int[all][all];
        int[] sides = new int[all];
        sides[size] = -1;
        List<Integer> each = new ArrayList<>();
        for (int i = 0; i < all; i++) {
            each.add(i);
            for (int j = 0; j < all; j++) {
                rows[j][i] = columns[taken.get(i)][j];
            }
        }
        Fraction[] found = corner(rows, sides, all, each);
        if (found == null) {
            return least;
        }
        Fraction[] weights = new Fraction[many];
        Arrays.fill(weights, Fraction.of(0));
        for (int i = 0; i < all; i++) {
            if (found[i].over.signum() < 0) {
                return least;
            }
            if (taken.get(i) < many) {
                weights[taken.get(i)] = found[i];
            }
        }
        return least == null || Arrays.compare(weights, least) < 0 ? weights : least;
    }

    private Fraction best;

    private Fraction[] leastCorner(int[][] rows, int[] sides, int many) {
        best = null;
        return leastCorner(rows, sides, many, new ArrayList<>(), 0, null);
    }

    private Fraction[] leastCorner(int[][] rows, int[] sides, int many, List<Integer> taken, int from,
            Fraction[] least) {
        if (taken.size() == many) {
            Fraction[] corner = corner(rows, sides, many, taken);
            if (corner == null || !fits(rows, sides, corner)) {
                return least;
            }
            Fraction sum = Fraction.of(0);
            for (Fraction f : corner) {
                sum = sum.plus(f);
            }
            best = best == null || best.compareTo(sum) < 0 ? sum : best;
            return least == null || Arrays.compare(corner, least) < 0 ? corner : least;
        }
        for (int i = from; i < rows.length; i++) {
            taken.add(i);
            least = leastCorner(rows, sides, many, taken, i + 1, least);
            taken.remove(taken.size() - 1);
        }
        return least;
    }

    private static boolean fits(int[][] rows, int[] sides, Fraction[] x) {
        for (int i = 0; i < rows.length; i++) {
            Fraction sum = Fraction.of(0);
            for (int j = 0; j < x.length; j++) {
                sum = sum.plus(Fraction.of(rows[i][j]).times(x[j]));
            }
            if (sum.compareTo(Fraction.of(sides[i])) > 0) {
                return false;
            }
        }
        return true;
    }

    private static Fraction[] corner(int[][] rows, int[] sides, int many, List<Integer> taken) {
        Fraction[][] t = new Fraction[many][many + 1];
        for (int i = 0; i < many; i++) {
            for (int j = 0; j < many; j++) {
                t[i][j] = Fraction.of(rows[taken.get(i)][j]);
            }
            t[i][many] = Fraction.of(sides[taken.get(i)]);
        }
        for (int c = 0; c < many; c++) {
            int r = c;
            while (r < many && t[r][c].isNought()) {
                r++;
            }
            if (r == many) {
                return null;
            }
            Fraction[] row = t[r];
            t[r] = t[c];
            t[c] = row;
            for (int i = 0; i < many; i++) {
                if (i != c && !t[i][c].isNought()) {
                    Fraction by = t[i][c].by(t[c][c]);
                    for (int j = c; j <= many; j++) {
                        t[i][j] = t[i][j].minus(by.times(t[c][j]));
                    }
                }
            }
        }
        Fraction[] x = new Fraction[many];
        for (int i = 0; i < many; i++) {
            x[i] = t[i][many].by(t[i][i]);
        }
        return x;
    }

    @Override
    void solve() {
        Fraction[] corner = leastCorner(unknownRows(), unknownSides(), size);
        if (corner != null) {
            reply = 'y';
            number = best.over.divide(best.under).intValue();
        } else {
            reply = 'n';
            number = 0;
            corner = leastWeights();
        }
        kept = inOne(corner);
    }

    private static int[] inOne(Fraction[] corner) {
        BigInteger under = BigInteger.ONE;
        for (Fraction f : corner) {
            under = under.multiply(f.under).divide(under.gcd(f.under));
        }
        int[] row = new int[corner.length + 1];
        row[0] = under.intValueExact();
        for (int i = 0; i < corner.length; i++) {
            row[i + 1] = corner[i].over.multiply(under).divide(corner[i].under).intValueExact();
        }
        return row;
    }

    @Override
    int judge(int[] row, boolean isWitness) {
        int many = isWitness ? size : items.size() + 1;
        if (row.length != many + 1 || row[0] <= 0) {
            return 1;
        }
        Fraction[] x = new Fraction[many];
        for (int i = 0; i < many; i++) {
            if (row[i + 1] < 0) {
                return 2;
            }
            x[i] = Fraction.of(row[i + 1]).by(Fraction.of(row[0]));
        }
        if (isWitness) {
            for (int i = 0; i <= items.size(); i++) {
                Fraction sum = Fraction.of(0);
                for (int j = 0; j < size; j++) {
                    sum = sum.plus(Fraction.of(times(i, j)).times(x[j]));
                }
                if (sum.compareTo(Fraction.of(limit(i))) > 0) {
                    return i < items.size() ? 3 : 4;
                }
            }
            return 0;
        }
        Fraction something = Fraction.of(0);
        for (int i = 0; i < many; i++) {
            something = something.plus(Fraction.of(limit(i)).times(x[i]));
        }
        for (int j = 0; j < size; j++) {
            Fraction sum = Fraction.of(0);
            for (int i = 0; i < many; i++) {
                sum = sum.plus(Fraction.of(times(i, j)).times(x[i]));
            }
            if (sum.compareTo(Fraction.of(0)) < 0) {
                return 3;
            }
        }
        return something.compareTo(Fraction.of(-1)) == 0 ? 0 : 4;
    }

    @Override
    int[] guess(boolean isWitness) {
        int many = isWitness ? size : items.size() + 1;
        int[] row = new int[many + 1];
        row[0] = between(1, 3);
        for (int i = 1; i <= many; i++) {
            row[i] = below(4);
        }
        return row;
    }

    @Override
    void askMore(Witnessworks w, int entry) {
        if (reply == 'n') {
            due.fails("tight " + this, java.util.NoSuchElementException.class, () -> w.isTight(entry, 0));
            return;
        }
        for (int i = 0; i <= items.size(); i++) {
            long sum = 0;
            for (int j = 0; j < size; j++) {
                sum += (long) times(i, j) * kept[j + 1];
            }
            due.is("tight " + i + " of " + this, sum == (long) limit(i) * kept[0], w.isTight(entry, i));
        }
        int none = items.size() + 1;
        due.fails("tight " + this, java.util.NoSuchElementException.class, () -> w.isTight(entry, none));
    }
}

final class Fraction implements Comparable<Fraction> {
    final BigInteger over;
    final BigInteger under;

    private Fraction(BigInteger over, BigInteger under) {
        BigInteger common = over.gcd(under);
        if (under.signum() < 0) {
            common = common.negate();
        }
        this.over = over.divide(common);
        this.under = under.divide(common);
    }

    static Fraction of(long number) {
        return new Fraction(BigInteger.valueOf(number), BigInteger.ONE);
    }

    Fraction plus(Fraction o) {
        return new Fraction(over.multiply(o.under).add(o.over.multiply(under)), under.multiply(o.under));
    }

    Fraction minus(Fraction o) {
        return new Fraction(over.multiply(o.under).subtract(o.over.multiply(under)), under.multiply(o.under));
    }

    Fraction times(Fraction o) {
        return new Fraction(over.multiply(o.over), under.multiply(o.under));
    }

    Fraction by(Fraction o) {
        return new Fraction(over.multiply(o.under), under.multiply(o.over));
    }

    boolean isNought() {
        return over.signum() == 0;
    }

    @Override
    public int compareTo(Fraction o) {
        return over.multiply(o.under).compareTo(o.over.multiply(under));
    }
}
