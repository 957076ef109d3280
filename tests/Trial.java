import java.util.ArrayList;
import java.util.Arrays;
import java.util.List;
import java.util.Random;

/**
 * Tries a kind with many questions, and compares each answer with that of a slow second way to find it, which
 * goes by the words of the document. The seeds are fixed, so that each run is the same.
 */
abstract class Trial {
    final Due due;
    Random random;
    int size;
    int bound;
    List<int[]> items = new ArrayList<>();

    char reply;
    int number;
    int[] kept = {};

    Trial(Due due) {
        this.due = due;
    }

    abstract char kind();

    /** Makes up size, bound and items. */
    abstract void make();

    /** Finds reply, number and kept. */
    abstract void solve();

    /** Goes through the conditions, for a row of any numbers. */
    abstract int judge(int[] row, boolean isWitness);

    /** A row that has some chance to be accepted, or null. */
    int[] guess(boolean isWitness) {
        return null;
    }

    /** What only this kind is asked. */
    void askMore(Witnessworks w, int entry) {
    }

    int below(int many) {
        return random.nextInt(many);
    }

    int between(int least, int most) {
        return least + random.nextInt(most - least + 1);
    }

    void run(int times, long seed) {
        random = new Random(seed);
        for (int time = 0; time < times; time++) {
            items.clear();
            make();
            tryOut();
        }
    }

    void tryOut() {
        Witnessworks w = new Witnessworks();
        int entry = w.open(kind(), size, bound);
        for (int[] item : items) {
            w.put(entry, item[0], item[1], item[2], item[3], item[4]);
        }
        solve();
        String what = this.toString();
        due.is("answer of " + what, reply, w.answer(entry));
        due.is("number of " + what, number, w.number(entry));
        due.is("row of " + what, Arrays.toString(kept), Arrays.toString(keptBy(w, entry)));
        due.is("sound " + what, true, w.isSound());
        askMore(w, entry);
        look(w, entry, kept);
        look(w, entry, new int[0]);
        int[] row = kept;
        for (int i = 0; i < 10; i++) {
            row = i % 3 == 0 ? kept : row;
            row = twist(row);
            look(w, entry, row);
        }
        for (int i = 0; i < 6; i++) {
            int[] guessed = guess(i % 2 == 0);
            if (guessed != null) {
                look(w, entry, guessed);
                look(w, entry, twist(guessed));
            }
        }
    }

    private void look(Witnessworks w, int entry, int[] row) {
        if (row.length > 64) {
            return;
        }
        w.wipe();
        for (int number : row) {
            w.type(number);
        }
        String what = Arrays.toString(row) + " for " + this;
        due.is("witness " + what, judge(row, true), w.check(entry, true));
        due.is("refutation " + what, judge(row, false), w.check(entry, false));
    }

    private int[] twist(int[] row) {
        int[] other = row.clone();
        int way = below(8);
        if (way == 0 && other.length < 63 || other.length == 0) {
            int place = below(other.length + 1);
            int[] longer = new int[other.length + 1];
            System.arraycopy(other, 0, longer, 0, place);
            System.arraycopy(other, place, longer, place + 1, other.length - place);
            longer[place] = between(-2, 8);
            return longer;
        }
        int place = below(other.length);
        switch (way) {
            case 1:
                int[] shorter = new int[other.length - 1];
                System.arraycopy(other, 0, shorter, 0, place);
                System.arraycopy(other, place + 1, shorter, place, shorter.length - place);
                return shorter;
            case 2:
                int[] ends = {Integer.MAX_VALUE, Integer.MIN_VALUE, -1, 0, 1, 65536, 1 << 30, 46341};
                other[place] = ends[below(ends.length)];
                return other;
            case 3:
                int swapped = below(other.length);
                int number = other[place];
                other[place] = other[swapped];
                other[swapped] = number;
                return other;
            case 4:
                int times = between(2, 3);
                for (int i = 0; i < other.length; i++) {
                    other[i] *= times;
                }
                return other;
            case 5:
                return Arrays.copyOf(other, place);
            default:
                other[place] += between(-2, 2);
                return other;
        }
    }

    static int[] keptBy(Witnessworks w, int entry) {
        int[] row = new int[w.length(entry)];
        for (int i = 0; i < row.length; i++) {
            row[i] = w.sign(entry, i);
        }
        return row;
    }

    static int[] toArray(List<Integer> list) {
        int[] row = new int[list.size()];
        for (int i = 0; i < row.length; i++) {
            row[i] = list.get(i);
        }
        return row;
    }

    static boolean isLess(int[] one, int[] other) {
        return Arrays.compare(one, other) < 0;
    }

    boolean isRising(int[] row, int first) {
        for (int i = first + 1; i < row.length; i++) {
            if (row[i] <= row[i - 1]) {
                return false;
            }
        }
        return true;
    }

    static boolean holds(int[] row, int first, int number) {
        for (int i = first; i < row.length; i++) {
            if (row[i] == number) {
                return true;
            }
        }
        return false;
    }

    @Override
    public String toString() {
        StringBuilder text = new StringBuilder();
        text.append(kind()).append(size).append('/').append(bound);
        for (int[] item : items) {
            text.append(Arrays.toString(item));
        }
        return text.toString();
    }
}
