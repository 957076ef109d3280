import java.util.ArrayList;
import java.util.Arrays;
import java.util.HashMap;
import java.util.List;
import java.util.Map;
import java.util.NoSuchElementException;

/** The book a second time, written plainly from the document, with the trials of the kinds as its solvers. */
final class Model {
    private static final String KINDS = "mfplsdnrgwax";
    private static final int[][] SIZES = {{1, 9}, {2, 7}, {1, 7}, {1, 4}, {1, 6}, {1, 4}, {1, 1}, {1, 1}, {2, 6},
        {1, 1}, {1, 8}, {1, 7}};
    private static final int[][] BOUNDS = {{0, 9}, {0, 60}, {0, 11}, {0, 40}, {0, 6}, {-40, 40}, {2, 9999}, {0, 3},
        {0, 4}, {0, 7}, {0, 7}, {0, 6}};
    private static final int[] ITEMS = {16, 10, 11, 12, 12, 2, 0, 1, 5, 6, 8, 7};
    private static final Map<String, Answer> KNOWN = new HashMap<>();
    private static final Trial[] TRIALS = {new PairingsTest(null), new FlowsTest(null), new DrawingsTest(null),
        new InequalitiesTest(null), new ClausesTest(null), new EquationsTest(null), new PrimesTest(null),
        new RootsTest(null), new PermutationsTest(null), new WordsTest(null), new MachinesTest(null),
        new GamesTest(null)};

    private static final class Answer {
        char reply;
        int number;
        int[] row;
    }

    private static final class Question {
        int kind;
        int size;
        int bound;
        int leans = -1;
        int plus;
        int from = -1;
        List<int[]> items = new ArrayList<>();
        char settledReply;
        int[] settledRow;

        Question copy() {
            Question q = new Question();
            q.kind = kind;
            q.size = size;
            q.bound = bound;
            q.leans = leans;
            q.plus = plus;
            q.from = from;
            for (int[] item : items) {
                q.items.add(item.clone());
            }
            q.settledReply = settledReply;
            q.settledRow = settledRow;
            return q;
        }
    }

    private static final class Standing {
        int person;
        int entry;
        boolean isWitness;
        int[] row;
    }

    private List<Question> book = new ArrayList<>();
    private final List<List<Question>> pasts = new ArrayList<>();
    private final List<Character> letters = new ArrayList<>();
    private List<Integer> typed = new ArrayList<>();
    private final List<Integer> points = new ArrayList<>();
    private final List<Standing> claims = new ArrayList<>();
    private final List<int[]> errata = new ArrayList<>();
    private int settlings;

    private static boolean within(int number, int least, int most) {
        return least <= number && number <= most;
    }

    private static boolean within(int number, int[] ends) {
        return within(number, ends[0], ends[1]);
    }

    private Question at(int entry) {
        if (!within(entry, 0, book.size() - 1)) {
            throw new IndexOutOfBoundsException();
        }
        return book.get(entry);
    }

    private static void place(int place, int count) {
        if (!within(place, 0, count - 1)) {
            throw new NoSuchElementException();
        }
    }

    private void keep(char letter) {
        List<Question> past = new ArrayList<>();
        for (Question q : book) {
            past.add(q.copy());
        }
        pasts.add(past);
        letters.add(letter);
        if (pasts.size() > 24) {
            pasts.remove(0);
            letters.remove(0);
        }
    }

    int open(char kind, int size, int bound) {
        int k = KINDS.indexOf(kind);
        if (k < 0 || !within(size, SIZES[k]) || !within(bound, BOUNDS[k])) {
            throw new IllegalArgumentException();
        }
        if (book.size() == 12) {
            throw new IllegalStateException();
        }
        keep('o');
        Question q = new Question();
        q.kind = k;
        q.size = size;
        q.bound = bound;
        book.add(q);
        return book.size() - 1;
    }

    private static boolean isItem(Question q, int number, int[] t) {
        int last = q.size - 1;
        switch (KINDS.charAt(q.kind)) {
            case 'm':
            case 'p':
                return within(t[0], 0, last) && within(t[1], 0, last) && t[0] != t[1];
            case 'f':
                return within(t[0], 0, last) && within(t[1], 0, last) && t[0] != t[1] && within(t[2], 0, 6);
            case 'l':
                for (int i = 0; i < q.size; i++) {
                    if (!within(t[i], -9, 9)) {
                        return false;
                    }
                }
                return within(t[4], -60, 60);
            case 's':
                return within(t[0], -q.size, q.size) && within(t[1], -q.size, q.size) && within(t[2], -q.size, q.size)
                        && !(t[0] == 0 && t[1] == 0 && t[2] == 0);
            case 'd':
                for (int i = 0; i < q.size; i++) {
                    if (!within(t[i], -6, 6)) {
                        return false;
                    }
                }
                return within(t[4], -20, 20);
            case 'n':
                return true;
            case 'r':
                return within(t[0], -7, 7) && within(t[1], -7, 7) && within(t[2], -7, 7) && within(t[3], -7, 7);
            case 'g':
                for (int i = 0; i < Math.min(5, q.size); i++) {
                    for (int j = 0; j < i; j++) {
                        if (t[i] == t[j]) {
                            return false;
                        }
                    }
                    if (!within(t[i], 0, last)) {
                        return false;
                    }
                }
                return true;
            case 'w':
                int most = number == 0 ? 255 : 31;
                return within(t[0], 1, most) && within(t[1], 1, most);
            case 'a':
                return within(t[0], 0, last) && within(t[1], 0, last) && within(t[2], 0, 1);
            default:
                return within(t[0], 0, 1) && within(t[1], 0, 5) && within(t[2], 0, last) && within(t[3], -1, last)
                        && within(t[4], -1, last);
        }
    }

    private static boolean isTwice(Question q, int number, int[] t) {
        if (KINDS.charAt(q.kind) != 'm' && KINDS.charAt(q.kind) != 'p') {
            return false;
        }
        for (int i = 0; i < q.items.size(); i++) {
            int[] o = q.items.get(i);
            if (i != number && (o[0] == t[0] && o[1] == t[1] || o[0] == t[1] && o[1] == t[0])) {
                return true;
            }
        }
        return false;
    }

    int put(int entry, int a, int b, int c, int d, int e) {
        Question q = at(entry);
        int[] t = {a, b, c, d, e};
        if (!isItem(q, q.items.size(), t)) {
            throw new IllegalArgumentException();
        }
        if (isTwice(q, -1, t)) {
            throw new UnsupportedOperationException();
        }
        int most = q.kind >= 10 ? q.size : ITEMS[q.kind];
        if (q.items.size() == most) {
            throw new IllegalStateException();
        }
        keep('p');
        q.items.add(t);
        return q.items.size();
    }

    int change(int entry, int item, int a, int b, int c, int d, int e) {
        Question q = at(entry);
        place(item, q.items.size());
        int[] t = {a, b, c, d, e};
        if (!isItem(q, item, t)) {
            throw new IllegalArgumentException();
        }
        if (isTwice(q, item, t)) {
            throw new UnsupportedOperationException();
        }
        keep('c');
        int many = 0;
        for (int i = 0; i < 5; i++) {
            many += q.items.get(item)[i] != t[i] ? 1 : 0;
        }
        q.items.set(item, t);
        return many;
    }

    int drop(int entry, int item) {
        Question q = at(entry);
        place(item, q.items.size());
        keep('d');
        q.items.remove(item);
        return q.items.size();
    }

    int setBound(int entry, int bound) {
        Question q = at(entry);
        if (!within(bound, BOUNDS[q.kind])) {
            throw new IllegalArgumentException();
        }
        int old = bound(entry);
        keep('b');
        q.bound = bound;
        q.leans = -1;
        return old;
    }

    int lean(int entry, int other, int plus) {
        Question q = at(entry);
        at(other);
        if (!within(plus, -20, 20)) {
            throw new IllegalArgumentException();
        }
        for (int e = other; e >= 0; e = book.get(e).leans) {
            if (e == entry) {
                throw new UnsupportedOperationException();
            }
        }
        keep('l');
        q.leans = other;
        q.plus = plus;
        return bound(entry);
    }

    int stand(int entry) {
        Question q = at(entry);
        if (q.leans < 0) {
            throw new UnsupportedOperationException();
        }
        keep('s');
        q.bound = bound(entry);
        q.leans = -1;
        return q.bound;
    }

    int carry(int entry, char kind) {
        at(entry);
        if (KINDS.indexOf(kind) < 0) {
            throw new IllegalArgumentException();
        }
        Question made = carried(entry, kind);
        if (made == null) {
            throw new UnsupportedOperationException();
        }
        if (book.size() == 12) {
            throw new IllegalStateException();
        }
        keep('y');
        book.add(made);
        return book.size() - 1;
    }

    /** What the entry would be in the other kind, or null. */
    private Question carried(int entry, char kind) {
        Question q = book.get(entry);
        Question made = new Question();
        made.from = entry;
        made.kind = KINDS.indexOf(kind);
        String both = "" + KINDS.charAt(q.kind) + kind;
        boolean isDone;
        if (both.equals("mf")) {
            isDone = pairsToFlow(q, bound(entry), made);
        } else if (both.equals("fl")) {
            isDone = flowToInequalities(q, bound(entry), made);
        } else {
            isDone = both.equals("ms") && pairsToClauses(q, bound(entry), made);
        }
        return isDone && made.items.size() <= ITEMS[made.kind] && within(made.size, SIZES[made.kind])
                && within(made.bound, BOUNDS[made.kind]) ? made : null;
    }

    private static boolean[] sides(Question q) {
        int[] side = new int[q.size];
        for (int v = 0; v < q.size; v++) {
            if (side[v] == 0) {
                side[v] = 1;
                for (int turn = 0; turn < 9; turn++) {
                    for (int[] item : q.items) {
                        for (int way = 0; way < 2; way++) {
                            if (side[item[way]] != 0) {
                                if (side[item[1 - way]] == side[item[way]]) {
                                    return null;
                                }
                                side[item[1 - way]] = -side[item[way]];
                            }
                        }
                    }
                }
            }
        }
        boolean[] isLeft = new boolean[q.size];
        for (int v = 0; v < q.size; v++) {
            isLeft[v] = side[v] == 1;
        }
        return isLeft;
    }

    private static boolean pairsToFlow(Question q, int bound, Question made) {
        boolean[] isLeft = sides(q);
        if (isLeft == null) {
            return false;
        }
        made.size = q.size + 2;
        made.bound = Math.max(0, (int) Math.ceil((q.size - bound) / 2.0));
        for (int v = 0; v < q.size; v++) {
            made.items.add(isLeft[v] ? new int[] {0, v + 1, 1, 0, 0} : new int[] {v + 1, q.size + 1, 1, 0, 0});
        }
        for (int[] item : q.items) {
            int left = isLeft[item[0]] ? item[0] : item[1];
            made.items.add(new int[] {left + 1, item[0] + item[1] - left + 1, 1, 0, 0});
        }
        return true;
    }

    private static boolean flowToInequalities(Question q, int bound, Question made) {
        made.size = q.items.size();
        made.bound = 40;
        if (made.size < 1 || made.size > 4) {
            return false;
        }
        for (int i = 0; i < made.size; i++) {
            int[] one = new int[5];
            one[i] = 1;
            one[4] = q.items.get(i)[2];
            made.items.add(one);
        }
        for (int v = 1; v <= q.size; v++) {
            int node = v < q.size - 1 ? v : v == q.size - 1 ? 0 : -1;
            if (node < 0) {
                break;
            }
            int[] goes = new int[5];
            int[] comes = new int[5];
            for (int i = 0; i < made.size; i++) {
                int more = (q.items.get(i)[0] == node ? 1 : 0) - (q.items.get(i)[1] == node ? 1 : 0);
                goes[i] = more;
                comes[i] = -more;
            }
            if (node > 0) {
                made.items.add(comes);
                made.items.add(goes);
            } else {
                goes[4] = bound;
                comes[4] = -bound;
                made.items.add(goes);
                made.items.add(comes);
            }
        }
        return true;
    }

    private static boolean pairsToClauses(Question q, int bound, Question made) {
        if (bound != 0) {
            return false;
        }
        made.size = q.items.size();
        made.bound = made.size;
        for (int v = 0; v < q.size; v++) {
            List<Integer> edges = new ArrayList<>();
            for (int i = 0; i < q.items.size(); i++) {
                if (q.items.get(i)[0] == v || q.items.get(i)[1] == v) {
                    edges.add(i + 1);
                }
            }
            if (edges.isEmpty() || edges.size() > 3) {
                return false;
            }
            while (edges.size() < 5) {
                edges.add(0);
            }
            made.items.add(Trial.toArray(edges));
        }
        for (int i = 0; i < q.items.size(); i++) {
            for (int j = i + 1; j < q.items.size(); j++) {
                int[] one = q.items.get(i);
                int[] other = q.items.get(j);
                if (one[0] == other[0] || one[0] == other[1] || one[1] == other[0] || one[1] == other[1]) {
                    made.items.add(new int[] {-i - 1, -j - 1, 0, 0, 0});
                }
            }
        }
        return true;
    }

    char undo() {
        if (pasts.isEmpty()) {
            throw new NoSuchElementException();
        }
        List<Question> past = pasts.remove(pasts.size() - 1);
        for (int i = 0; i < past.size(); i++) {
            past.get(i).settledReply = book.get(i).settledReply;
            past.get(i).settledRow = book.get(i).settledRow;
        }
        book = past;
        claims.removeIf(c -> c.entry >= book.size());
        return letters.remove(letters.size() - 1);
    }

    int entries() {
        return book.size();
    }

    char kindOf(int entry) {
        return KINDS.charAt(at(entry).kind);
    }

    int sizeOf(int entry) {
        return at(entry).size;
    }

    int boundOf(int entry) {
        at(entry);
        return bound(entry);
    }

    private int bound(int entry) {
        Question q = book.get(entry);
        if (q.leans < 0) {
            return q.bound;
        }
        int sum = solved(q.leans).number + q.plus;
        return sum < BOUNDS[q.kind][0] ? BOUNDS[q.kind][0] : sum > BOUNDS[q.kind][1] ? BOUNDS[q.kind][1] : sum;
    }

    int items(int entry) {
        return at(entry).items.size();
    }

    int item(int entry, int item, int index) {
        Question q = at(entry);
        place(item, q.items.size());
        if (!within(index, 0, 4)) {
            throw new IllegalArgumentException();
        }
        return q.items.get(item)[index];
    }

    int leansOn(int entry) {
        Question q = at(entry);
        if (q.leans < 0) {
            throw new NoSuchElementException();
        }
        return q.leans;
    }

    int cameFrom(int entry) {
        Question q = at(entry);
        if (q.from < 0) {
            throw new NoSuchElementException();
        }
        return q.from;
    }

    private Trial trial(int entry) {
        Question q = book.get(entry);
        int bound = bound(entry);
        Trial trial = TRIALS[q.kind];
        trial.size = q.size;
        trial.bound = bound;
        trial.items = q.items;
        return trial;
    }

    private Answer solved(int entry) {
        Trial trial = trial(entry);
        String key = trial.toString();
        Answer answer = KNOWN.get(key);
        if (answer == null) {
            trial.solve();
            answer = new Answer();
            answer.reply = trial.reply;
            answer.number = trial.number;
            answer.row = trial.kept.clone();
            KNOWN.put(key, answer);
        }
        return answer;
    }

    private int judged(int entry, int[] row, boolean isWitness) {
        Trial trial = trial(entry);
        trial.solve();
        return trial.judge(row, isWitness);
    }

    char answer(int entry) {
        at(entry);
        return solved(entry).reply;
    }

    int number(int entry) {
        at(entry);
        return solved(entry).number;
    }

    int length(int entry) {
        at(entry);
        return solved(entry).row.length;
    }

    int sign(int entry, int index) {
        at(entry);
        place(index, solved(entry).row.length);
        return solved(entry).row[index];
    }

    long rowSum(int entry) {
        at(entry);
        long sum = 7;
        for (int number : solved(entry).row) {
            sum = 31 * sum + number;
        }
        return sum;
    }

    int person() {
        if (points.size() == 6) {
            throw new IllegalStateException();
        }
        points.add(0);
        return points.size() - 1;
    }

    int type(int number) {
        if (typed.size() == 64) {
            throw new IllegalStateException();
        }
        typed.add(number);
        return typed.size();
    }

    int typeMore(int many, int[] numbers) {
        if (!within(many, 1, 8)) {
            throw new IllegalArgumentException();
        }
        if (typed.size() + many > 64) {
            throw new IllegalStateException();
        }
        for (int i = 0; i < many; i++) {
            typed.add(numbers[i]);
        }
        return typed.size();
    }

    int alter(int index, int number) {
        place(index, typed.size());
        return typed.set(index, number);
    }

    int wipe() {
        int many = typed.size();
        typed.clear();
        return many;
    }

    private void typeAll(int[] row) {
        typed = new ArrayList<>();
        for (int number : row) {
            typed.add(number);
        }
    }

    int borrow(int entry) {
        at(entry);
        if (solved(entry).row.length > 64) {
            throw new UnsupportedOperationException();
        }
        typeAll(solved(entry).row);
        return typed.size();
    }

    private boolean isAsCarried(int entry) {
        Question q = book.get(entry);
        if (q.from < 0) {
            return false;
        }
        Question made = carried(q.from, KINDS.charAt(q.kind));
        if (made == null || made.size != q.size || made.bound != bound(entry)
                || made.items.size() != q.items.size()) {
            return false;
        }
        for (int i = 0; i < q.items.size(); i++) {
            if (!Arrays.equals(q.items.get(i), made.items.get(i))) {
                return false;
            }
        }
        return true;
    }

    int bring(int entry) {
        Question q = at(entry);
        if (!isAsCarried(entry)) {
            throw new UnsupportedOperationException();
        }
        Question from = book.get(q.from);
        Answer answer = solved(entry);
        String both = "" + KINDS.charAt(q.kind) + answer.reply;
        if (both.equals("ln") || both.equals("sn") || both.equals("ly") && answer.row[0] != 1) {
            throw new UnsupportedOperationException();
        }
        if (both.equals("ly")) {
            typeAll(Arrays.copyOfRange(answer.row, 1, answer.row.length));
        } else if (both.equals("fn")) {
            boolean[] isLeft = sides(from);
            List<Integer> nodes = new ArrayList<>();
            for (int v = 0; v < from.size; v++) {
                if (isLeft[v] != Trial.holds(answer.row, 0, v + 1)) {
                    nodes.add(v);
                }
            }
            typed = nodes;
        } else {
            int[] row = new int[from.size];
            for (int v = 0; v < from.size; v++) {
                row[v] = v;
            }
            int ahead = both.equals("fy") ? from.size : 0;
            for (int i = 0; i < from.items.size(); i++) {
                if (answer.row[ahead + i] == 1) {
                    row[from.items.get(i)[0]] = from.items.get(i)[1];
                    row[from.items.get(i)[1]] = from.items.get(i)[0];
                }
            }
            typeAll(row);
        }
        return typed.size();
    }

    int check(int entry, boolean isWitness) {
        at(entry);
        return judged(entry, Trial.toArray(typed), isWitness);
    }

    int claim(int person, int entry, boolean isWitness) {
        if (!within(person, 0, points.size() - 1)) {
            throw new IndexOutOfBoundsException();
        }
        at(entry);
        int[] row = Trial.toArray(typed);
        int condition = judged(entry, row, isWitness);
        if (condition != 0) {
            return condition;
        }
        for (Standing c : claims) {
            if (c.entry == entry && c.isWitness == isWitness && Arrays.equals(c.row, row)) {
                return 0;
            }
        }
        if (claims.size() == 16) {
            throw new IllegalStateException();
        }
        Standing c = new Standing();
        c.person = person;
        c.entry = entry;
        c.isWitness = isWitness;
        c.row = row;
        claims.add(c);
        points.set(person, points.get(person) + (row.length < solved(entry).row.length ? 3 : 1));
        return 0;
    }

    int standing() {
        return claims.size();
    }

    int standingOf(int index, char what) {
        place(index, claims.size());
        Standing c = claims.get(index);
        switch (what) {
            case 'p':
                return c.person;
            case 'e':
                return c.entry;
            case 'w':
                return c.isWitness ? 1 : 0;
            case 'l':
                return c.row.length;
            default:
                throw new IllegalArgumentException();
        }
    }

    int points(int person) {
        if (!within(person, 0, points.size() - 1)) {
            throw new IndexOutOfBoundsException();
        }
        return points.get(person);
    }

    int settle() {
        settlings++;
        int ahead = errata.size();
        for (int entry = 0; entry < book.size(); entry++) {
            Question q = book.get(entry);
            Answer now = solved(entry);
            if (q.settledRow != null) {
                if (q.settledReply != now.reply) {
                    errata.add(new int[] {settlings, entry, now.reply, 0});
                } else if (!Arrays.equals(q.settledRow, now.row)) {
                    int shorter = Math.min(q.settledRow.length, now.row.length);
                    int first = 0;
                    while (first < shorter && q.settledRow[first] == now.row[first]) {
                        first++;
                    }
                    errata.add(new int[] {settlings, entry, 'r', first});
                }
            }
            q.settledReply = now.reply;
            q.settledRow = now.row;
            for (Standing c : new ArrayList<>(claims)) {
                if (c.entry == entry) {
                    int condition = judged(entry, c.row, c.isWitness);
                    if (condition != 0) {
                        errata.add(new int[] {settlings, entry, 'c', condition});
                        claims.remove(c);
                    }
                }
            }
        }
        return errata.size() - ahead;
    }

    boolean isSettled(int entry) {
        Question q = at(entry);
        return q.settledRow != null && q.settledReply == solved(entry).reply
                && Arrays.equals(q.settledRow, solved(entry).row);
    }

    int errata() {
        return errata.size();
    }

    int erratum(int index, char what) {
        place(index, errata.size());
        int place = "se*n".indexOf(what);
        if (place < 0 || what == '*') {
            throw new IllegalArgumentException();
        }
        return errata.get(index)[place];
    }

    char erratumSign(int index) {
        place(index, errata.size());
        return (char) errata.get(index)[2];
    }

    float yesShare() {
        if (book.isEmpty()) {
            throw new ArithmeticException();
        }
        int many = 0;
        for (int entry = 0; entry < book.size(); entry++) {
            many += solved(entry).reply == 'y' ? 1 : 0;
        }
        return (float) many / (float) book.size();
    }

    double meanLength() {
        if (book.isEmpty()) {
            throw new ArithmeticException();
        }
        int sum = 0;
        for (int entry = 0; entry < book.size(); entry++) {
            sum += solved(entry).row.length;
        }
        return (double) sum / (double) book.size();
    }

    long checksum() {
        long sum = 7;
        for (int entry = 0; entry < book.size(); entry++) {
            sum = 31 * sum + bound(entry);
            sum = 31 * sum + solved(entry).number;
            sum = 31 * sum + solved(entry).reply;
            sum = 31 * sum + rowSum(entry);
        }
        return sum;
    }

    boolean isSound() {
        for (int entry = 0; entry < book.size(); entry++) {
            if (judged(entry, solved(entry).row, solved(entry).reply == 'y') != 0) {
                return false;
            }
            if (isAsCarried(entry) && solved(entry).reply != solved(book.get(entry).from).reply) {
                return false;
            }
        }
        for (Standing c : claims) {
            if (c.isWitness != (solved(c.entry).reply == 'y') && judged(c.entry, c.row, c.isWitness) == 0) {
                return false;
            }
        }
        return true;
    }
}
