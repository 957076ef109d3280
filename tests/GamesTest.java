/** Kind 'x', and promise 37. The second way goes through all choices of both players. */
public final class GamesTest extends Trial {
    private int[] winners;

    GamesTest(Due due) {
        super(due);
    }

    public static void main(String[] args) {
        Due due = new Due();
        new GamesTest(due).run(700, 12);
        edges(due);
        due.end();
    }

    private static void edges(Due due) {
        Witnessworks w = new Witnessworks();
        int x = w.open('x', 3, 6);
        due.is("without items", "0 1 2", Due.row(w, x));
        due.is("all", 3, w.number(x));
        w.put(x, 0, 1, 0, -1, -1);
        due.is("the first one is lost", 1, w.wins(x, 0));
        due.is("the last one is asked", 'y', w.answer(x));
        w.setBound(x, 0);
        due.is("lost", 'n', w.answer(x));
        due.is("none to choose", "-1 -1 -1", Due.row(w, x));
        w.change(x, 0, 0, 1, 2, 0, 1);
        due.is("the least way that wins", "1 1 2", Due.row(w, x));
        due.fails("no node", IllegalArgumentException.class, () -> w.wins(x, 3));
        due.fails("no node", IllegalArgumentException.class, () -> w.wins(x, -1));
        due.fails("no entry", IndexOutOfBoundsException.class, () -> w.wins(1, 0));
        int m = w.open('m', 2, 0);
        due.fails("another kind", UnsupportedOperationException.class, () -> w.wins(m, 9));
    }

    @Override
    char kind() {
        return 'x';
    }

    @Override
    void make() {
        size = between(1, 7);
        bound = between(0, 6);
        int many = below(3) > 0 ? size : between(0, size);
        for (int i = 0; i < many; i++) {
            items.add(new int[] {below(2), below(6), below(size), between(-1, size - 1), between(-1, size - 1)});
        }
    }

    private int owner(int node) {
        return node < items.size() ? items.get(node)[0] : 0;
    }

    private int weight(int node) {
        return node < items.size() ? items.get(node)[1] : 0;
    }

    private boolean leads(int node, int other) {
        if (node >= items.size()) {
            return node == other;
        }
        int[] item = items.get(node);
        return item[2] == other || item[3] == other || item[4] == other;
    }

    private int asked() {
        return bound < size ? bound : size - 1;
    }

    /** Who wins if all go as the row says. */
    private int play(int[] row, int start) {
        int at = start;
        for (int i = 0; i < 20; i++) {
            at = row[at];
        }
        int greatest = 0;
        for (int i = 0; i < 20; i++) {
            greatest = Math.max(greatest, weight(at));
            at = row[at];
        }
        return greatest % 2;
    }

    /** Whether the player, whose ways stand in the row, wins however the other one goes, always the same way. */
    private boolean beats(int player, int[] row, int node, int start) {
        if (node == size) {
            return play(row, start) == player;
        }
        if (owner(node) == player) {
            return beats(player, row, node + 1, start);
        }
        for (int v = 0; v < size; v++) {
            if (leads(node, v)) {
                row[node] = v;
                if (!beats(player, row, node + 1, start)) {
                    return false;
                }
            }
        }
        return true;
    }

    /** The least row by which the player wins, or null. */
    private int[] find(int player, int[] row, int node, int start) {
        if (node == size) {
            int[] found = row.clone();
            if (!beats(player, row, 0, start)) {
                return null;
            }
            for (int v = 0; v < size; v++) {
                found[v] = owner(v) == player ? found[v] : -1;
            }
            return found;
        }
        if (owner(node) != player) {
            return find(player, row, node + 1, start);
        }
        for (int v = 0; v < size; v++) {
            if (leads(node, v)) {
                row[node] = v;
                int[] found = find(player, row, node + 1, start);
                if (found != null) {
                    return found;
                }
            }
        }
        return null;
    }

    @Override
    void solve() {
        winners = new int[size];
        number = 0;
        for (int v = 0; v < size; v++) {
            winners[v] = find(0, new int[size], 0, v) != null ? 0 : 1;
            number += 1 - winners[v];
        }
        int winner = winners[asked()];
        reply = winner == 0 ? 'y' : 'n';
        kept = find(winner, new int[size], 0, asked());
    }

    @Override
    int judge(int[] row, boolean isWitness) {
        int player = isWitness ? 0 : 1;
        if (row.length != size) {
            return 1;
        }
        for (int v = 0; v < size; v++) {
            boolean isRight = owner(v) != player ? row[v] == -1 : row[v] >= 0 && row[v] < size && leads(v, row[v]);
            if (!isRight) {
                return 1;
            }
        }
        return beats(player, row.clone(), 0, asked()) ? 0 : 2;
    }

    @Override
    int[] guess(boolean isWitness) {
        int[] row = new int[size];
        for (int v = 0; v < size; v++) {
            row[v] = -1;
            while (owner(v) == (isWitness ? 0 : 1) && (row[v] < 0 || !leads(v, row[v]))) {
                row[v] = below(size);
            }
        }
        return row;
    }

    @Override
    void askMore(Witnessworks w, int entry) {
        for (int v = 0; v < size; v++) {
            due.is("wins " + v + " of " + this, winners[v], w.wins(entry, v));
        }
    }
}
