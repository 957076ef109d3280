import java.math.BigInteger;
import java.util.ArrayList;
import java.util.List;

/** Kind 'n', and promises 31 and 32. */
public final class PrimesTest extends Trial {
    private int next;

    PrimesTest(Due due) {
        super(due);
    }

    public static void main(String[] args) {
        Due due = new Due();
        PrimesTest trial = new PrimesTest(due);
        trial.run(700, 7);
        trial.next = 9798;
        trial.run(200, 77);
        edges(due);
        due.end();
    }

    private static void edges(Due due) {
        Witnessworks w = new Witnessworks();
        int n = w.open('n', 1, 2);
        due.is("two", "2", Due.row(w, n));
        w.setBound(n, 7);
        due.is("seven", "7 3 2 3 2 2", Due.row(w, n));
        due.is("power", 6, w.power(n, 3, 3));
        due.is("power by 0", 1, w.power(n, 0, 0));
        due.is("order", 6, w.orderOf(n, 3));
        due.is("order of 1", 1, w.orderOf(n, 1));
        due.is("order of 8", 1, w.orderOf(n, 8));
        due.fails("order of 0", java.util.NoSuchElementException.class, () -> w.orderOf(n, 0));
        due.fails("order of 7", java.util.NoSuchElementException.class, () -> w.orderOf(n, 7));
        due.fails("base", IllegalArgumentException.class, () -> w.power(n, -1, 0));
        due.fails("base", IllegalArgumentException.class, () -> w.power(n, 10000, 0));
        due.fails("exponent", IllegalArgumentException.class, () -> w.power(n, 0, -1));
        due.fails("exponent", IllegalArgumentException.class, () -> w.power(n, 0, 10000));
        due.fails("base", IllegalArgumentException.class, () -> w.orderOf(n, -1));
        due.fails("base", IllegalArgumentException.class, () -> w.orderOf(n, 10000));
        due.fails("no entry", IndexOutOfBoundsException.class, () -> w.power(1, 0, 0));
        due.fails("no entry", IndexOutOfBoundsException.class, () -> w.orderOf(-1, 0));
        int m = w.open('m', 2, 0);
        due.fails("another kind", UnsupportedOperationException.class, () -> w.power(m, -1, 0));
        due.fails("another kind", UnsupportedOperationException.class, () -> w.orderOf(m, -1));
        w.setBound(n, 9973);
        due.is("power", 1, w.power(n, 9999, 9972));
        w.setBound(n, 9999);
        due.is("divisor and how often", "3 3333", Due.row(w, n));
        due.is("number", 3, w.number(n));
    }

    @Override
    char kind() {
        return 'n';
    }

    @Override
    void make() {
        size = 1;
        bound = 2 + next;
        next++;
    }

    private static int leastDivisor(int number) {
        int divisor = 2;
        while (number % divisor != 0) {
            divisor++;
        }
        return divisor;
    }

    private static int order(int base, int modulus) {
        int value = base % modulus;
        for (int exponent = 1; exponent <= modulus; exponent++) {
            if (value == 1) {
                return exponent;
            }
            value = (int) ((long) value * base % modulus);
        }
        return 0;
    }

    @Override
    void solve() {
        number = leastDivisor(bound);
        reply = number == bound ? 'y' : 'n';
        List<Integer> row = new ArrayList<>();
        if (reply == 'y') {
            write(bound, row);
        } else {
            row.add(number);
            row.add(bound / number);
        }
        kept = toArray(row);
    }

    private static void write(int prime, List<Integer> row) {
        row.add(prime);
        if (prime == 2) {
            return;
        }
        int base = 2;
        while (order(base, prime) != prime - 1) {
            base++;
        }
        row.add(base);
        for (int q = 2; q < prime; q++) {
            if ((prime - 1) % q == 0 && leastDivisor(q) == q) {
                write(q, row);
            }
        }
    }

    private List<int[]> readRows;

    @Override
    int judge(int[] row, boolean isWitness) {
        if (!isWitness) {
            if (row.length != 2 || row[0] <= 1 || row[1] <= 1) {
                return 1;
            }
            return BigInteger.valueOf(row[0]).multiply(BigInteger.valueOf(row[1]))
                    .equals(BigInteger.valueOf(bound)) ? 0 : 2;
        }
        readRows = new ArrayList<>();
        if (read(row, 0) != row.length) {
            return 1;
        }
        if (row[0] != bound) {
            return 2;
        }
        for (int[] one : readRows) {
            if (rest(one[1], one[0] - 1, one[0]) != 1) {
                return 3;
            }
            for (int i = 2; i < one.length; i++) {
                if (rest(one[1], (one[0] - 1) / one[i], one[0]) == 1) {
                    return 3;
                }
            }
        }
        return 0;
    }

    private static long rest(int base, int exponent, int modulus) {
        return BigInteger.valueOf(base).modPow(BigInteger.valueOf(exponent), BigInteger.valueOf(modulus)).longValue();
    }

    private int read(int[] row, int place) {
        if (place >= row.length) {
            return -1;
        }
        if (row[place] == 2) {
            return place + 1;
        }
        if (row[place] < 2 || place + 1 >= row.length || row[place + 1] < 1 || row[place + 1] >= row[place]) {
            return -1;
        }
        List<Integer> one = new ArrayList<>();
        one.add(row[place]);
        one.add(row[place + 1]);
        int left = row[place] - 1;
        int at = place + 2;
        while (left != 1) {
            if (at >= row.length) {
                return -1;
            }
            int q = row[at];
            if (q < 2 || left % q != 0 || one.size() > 2 && q <= one.get(one.size() - 1)) {
                return -1;
            }
            at = read(row, at);
            if (at < 0) {
                return -1;
            }
            while (left % q == 0) {
                left /= q;
            }
            one.add(q);
        }
        readRows.add(toArray(one));
        return at;
    }

    /** Rows that can be read, with numbers that need not be primes. */
    @Override
    int[] guess(boolean isWitness) {
        List<Integer> row = new ArrayList<>();
        if (!isWitness) {
            row.add(between(1, 5));
            row.add(bound / row.get(0));
            return toArray(row);
        }
        form(below(3) == 0 ? between(2, 60) : bound, row);
        return toArray(row);
    }

    private void form(int number, List<Integer> row) {
        row.add(number);
        if (number == 2) {
            return;
        }
        row.add(between(1, number - 1));
        int left = number - 1;
        int ahead = 1;
        while (left != 1) {
            List<Integer> divisors = new ArrayList<>();
            for (int q = ahead + 1; q <= left; q++) {
                if (left % q == 0) {
                    divisors.add(q);
                }
            }
            if (divisors.isEmpty()) {
                return;
            }
            ahead = divisors.get(below(3) == 0 ? below(divisors.size()) : 0);
            form(ahead, row);
            while (left % ahead == 0) {
                left /= ahead;
            }
        }
    }

    @Override
    void askMore(Witnessworks w, int entry) {
        for (int i = 0; i < 5; i++) {
            int base = below(3) == 0 ? between(0, 9999) : between(0, 30);
            int exponent = between(0, 9999);
            due.is("power " + base + " " + exponent + " " + this, (int) rest(base, exponent, bound),
                    w.power(entry, base, exponent));
            int order = order(base, bound);
            if (order == 0) {
                due.fails("order " + base + " " + this, java.util.NoSuchElementException.class,
                        () -> w.orderOf(entry, base));
            } else {
                due.is("order " + base + " " + this, order, w.orderOf(entry, base));
            }
        }
    }
}
