import java.util.ArrayList;
import java.util.List;
import java.util.TreeSet;

/** Kind 'w', and promise 35. Words are texts here. */
public final class WordsTest extends Trial {
    WordsTest(Due due) {
        super(due);
    }

    public static void main(String[] args) {
        Due due = new Due();
        new WordsTest(due).run(900, 10);
        edges(due);
        due.end();
    }

    private static void edges(Due due) {
        Witnessworks w = new Witnessworks();
        int e = w.open('w', 1, 0);
        due.is("the word without letters", "1", Due.row(w, e));
        due.is("one word", 1, w.number(e));
        w.put(e, 255, 1, 9, 9, 9);
        due.is("too long", 'n', w.answer(e));
        due.is("no words", 0, w.number(e));
        due.is("no row", "", Due.row(w, e));
        w.setBound(e, 7);
        w.put(e, 1, 3, 0, 0, 0);
        due.is("steps", "255 127 63 31 15 7 3 1", Due.row(w, e));
        due.is("words", 8, w.number(e));
        due.is("distance", 5, w.distance(e, 3, 127));
        due.is("no distance", 0, w.distance(e, 3, 3));
        due.fails("no way", java.util.NoSuchElementException.class, () -> w.distance(e, 1, 2));
        due.fails("0", IllegalArgumentException.class, () -> w.distance(e, 0, 1));
        due.fails("0", IllegalArgumentException.class, () -> w.distance(e, 1, 0));
        due.fails("256", IllegalArgumentException.class, () -> w.distance(e, 256, 1));
        due.fails("256", IllegalArgumentException.class, () -> w.distance(e, 1, 256));
        w.setBound(e, 6);
        due.fails("too long", java.util.NoSuchElementException.class, () -> w.distance(e, 128, 128));
        due.fails("too long", java.util.NoSuchElementException.class, () -> w.distance(e, 1, 255));
        due.fails("no entry", IndexOutOfBoundsException.class, () -> w.distance(1, 0, 0));
        int m = w.open('m', 2, 0);
        due.fails("another kind", UnsupportedOperationException.class, () -> w.distance(m, 0, 0));
    }

    @Override
    char kind() {
        return 'w';
    }

    @Override
    void make() {
        size = 1;
        bound = between(0, 7);
        int many = between(0, 6);
        for (int i = 0; i < many; i++) {
            int most = i == 0 ? (below(4) == 0 ? 255 : (2 << bound) - 1) : below(2) == 0 ? 31 : 7;
            items.add(new int[] {between(1, most), between(1, most), -1, 0, 5});
        }
    }

    private static String text(int word) {
        return Integer.toBinaryString(word).substring(1);
    }

    private static int told(String word) {
        return Integer.parseInt("1" + word, 2);
    }

    private String asked(int which) {
        return items.isEmpty() ? "" : text(items.get(0)[which]);
    }

    private TreeSet<Integer> next(String word) {
        TreeSet<Integer> found = new TreeSet<>();
        for (int i = 1; i < items.size(); i++) {
            for (int side = 0; side < 2; side++) {
                String old = text(items.get(i)[side]);
                String put = text(items.get(i)[1 - side]);
                for (int at = 0; at + old.length() <= word.length(); at++) {
                    if (word.startsWith(old, at)) {
                        String made = word.substring(0, at) + put + word.substring(at + old.length());
                        if (made.length() <= bound) {
                            found.add(told(made));
                        }
                    }
                }
            }
        }
        return found;
    }

    /** By layers, so that each list is the words with just so many steps. */
    private List<TreeSet<Integer>> layers(int from) {
        List<TreeSet<Integer>> layers = new ArrayList<>();
        TreeSet<Integer> all = new TreeSet<>();
        TreeSet<Integer> layer = new TreeSet<>();
        layer.add(from);
        while (!layer.isEmpty()) {
            layers.add(layer);
            all.addAll(layer);
            TreeSet<Integer> following = new TreeSet<>();
            for (int word : layer) {
                following.addAll(next(text(word)));
            }
            following.removeAll(all);
            layer = following;
        }
        return layers;
    }

    @Override
    void solve() {
        String first = asked(0);
        String second = asked(1);
        reply = 'n';
        number = 0;
        kept = new int[0];
        if (first.length() > bound) {
            return;
        }
        TreeSet<Integer> all = new TreeSet<>();
        List<TreeSet<Integer>> layers = layers(told(first));
        int steps = -1;
        for (int i = 0; i < layers.size(); i++) {
            all.addAll(layers.get(i));
            if (second.length() <= bound && layers.get(i).contains(told(second))) {
                steps = i;
            }
        }
        number = all.size();
        if (steps < 0) {
            kept = toArray(new ArrayList<>(all));
            return;
        }
        reply = 'y';
        kept = null;
        find(new int[steps + 1], 0, told(first), layers);
    }

    /** All shortest rows would be too many, so those words are left that lead to the second one in time. */
    private boolean find(int[] row, int place, int word, List<TreeSet<Integer>> layers) {
        row[place] = word;
        if (place == row.length - 1) {
            if (word == told(asked(1))) {
                kept = row.clone();
                return true;
            }
            return false;
        }
        TreeSet<Integer> good = new TreeSet<>();
        good.add(told(asked(1)));
        for (int left = row.length - 2; left > place; left--) {
            TreeSet<Integer> ahead = new TreeSet<>();
            for (int each : layers.get(left)) {
                for (int other : next(text(each))) {
                    if (good.contains(other)) {
                        ahead.add(each);
                    }
                }
            }
            good = ahead;
        }
        for (int other : next(text(word))) {
            if (good.contains(other)) {
                return find(row, place + 1, other, layers);
            }
        }
        return false;
    }

    @Override
    int judge(int[] row, boolean isWitness) {
        for (int word : row) {
            if (word < 1 || word > 255 || text(word).length() > bound) {
                return 1;
            }
        }
        int first = told(asked(0));
        int second = told(asked(1));
        if (isWitness) {
            if (row.length == 0 || row[0] != first || row[row.length - 1] != second) {
                return 1;
            }
            for (int i = 1; i < row.length; i++) {
                if (!next(text(row[i - 1])).contains(row[i])) {
                    return 2;
                }
            }
            return 0;
        }
        if (!isRising(row, 0)) {
            return 1;
        }
        if (asked(0).length() <= bound && !holds(row, 0, first) || holds(row, 0, second)) {
            return 2;
        }
        for (int word : row) {
            for (int other : next(text(word))) {
                if (!holds(row, 0, other)) {
                    return 3;
                }
            }
        }
        return 0;
    }

    @Override
    int[] guess(boolean isWitness) {
        List<Integer> row = new ArrayList<>();
        if (isWitness) {
            int word = told(asked(0));
            row.add(word);
            for (int i = 0; i < 6; i++) {
                List<Integer> other = new ArrayList<>(next(text(word)));
                if (other.isEmpty()) {
                    break;
                }
                word = other.get(below(other.size()));
                row.add(word);
                if (word == told(asked(1))) {
                    break;
                }
            }
            return toArray(row);
        }
        TreeSet<Integer> all = new TreeSet<>();
        for (int i = below(3); i >= 0; i--) {
            for (TreeSet<Integer> layer : layers(between(1, (2 << bound) - 1))) {
                all.addAll(layer);
            }
        }
        return toArray(new ArrayList<>(all));
    }

    @Override
    void askMore(Witnessworks w, int entry) {
        for (int i = 0; i < 4; i++) {
            int one = between(1, below(5) == 0 ? 255 : (2 << bound) - 1);
            int other = between(1, (2 << bound) - 1);
            int steps = -1;
            if (text(one).length() <= bound) {
                List<TreeSet<Integer>> layers = layers(one);
                for (int j = 0; j < layers.size(); j++) {
                    steps = layers.get(j).contains(other) ? j : steps;
                }
            }
            String what = "distance " + one + " " + other + " of " + this;
            if (steps < 0) {
                due.fails(what, java.util.NoSuchElementException.class, () -> w.distance(entry, one, other));
            } else {
                due.is(what, steps, w.distance(entry, one, other));
            }
        }
    }
}
