import java.util.Arrays;
import java.util.NoSuchElementException;

/**
 * A house of questions of twelve kinds, and the book in which they stand. To each question a row of
 * numbers is kept that shows why it is so, or why it cannot be.
 */
public final class Witnessworks {
    private static final String KINDS = "mfplsdnrgwax";
    private static final int PAIRINGS = 0;
    private static final int FLOWS = 1;
    private static final int DRAWINGS = 2;
    private static final int INEQUALITIES = 3;
    private static final int CLAUSES = 4;
    private static final int EQUATIONS = 5;
    private static final int PRIMES = 6;
    private static final int ROOTS = 7;
    private static final int PERMUTATIONS = 8;
    private static final int WORDS = 9;
    private static final int MACHINES = 10;
    private static final int GAMES = 11;

    private static final int[] LEAST_SIZE = {1, 2, 1, 1, 1, 1, 1, 1, 2, 1, 1, 1};
    private static final int[] MOST_SIZE = {9, 7, 7, 4, 6, 4, 1, 1, 6, 1, 8, 7};
    private static final int[] LEAST_BOUND = {0, 0, 0, 0, 0, -40, 2, 0, 0, 0, 0, 0};
    private static final int[] MOST_BOUND = {9, 60, 11, 40, 6, 40, 9999, 3, 4, 7, 7, 6};
    private static final int[] MOST_ITEMS = {16, 10, 11, 12, 12, 2, 0, 1, 5, 6, 8, 7};

    private static final int MOST_ENTRIES = 12;
    private static final int MOST_CHANGES = 24;
    private static final int MOST_PERSONS = 6;
    private static final int MOST_CLAIMS = 16;
    private static final int MOST_TYPED = 64;
    private static final int MOST_AT_ONCE = 8;
    private static final int MOST_PLUS = 20;
    private static final int MOST_POWER = 9999;
    private static final int MOST_CUTS = 10;
    private static final int MOST_WORD = 255;
    private static final int ITEM_NUMBERS = 5;
    private static final int ERRATUM_NUMBERS = 4;
    private static final int MOST_ERRATA = 8192;
    private static final int NONE = -1;
    private static final int GREATEST = 2147483647;
    private static final int ALL_ITEMS = -1;

    private final House house = new House();
    private final Entry[] book = new Entry[MOST_ENTRIES];
    private int entryCount;
    private final int[] leaningChain = new int[MOST_ENTRIES];
    private final int[] told = new int[ITEM_NUMBERS];
    private final Entry draft = new Entry();

    private final Entry[] before = new Entry[MOST_CHANGES];
    private final char[] changeLetters = new char[MOST_CHANGES];
    private final int[] changedEntries = new int[MOST_CHANGES];
    private int firstChange;
    private int changeCount;

    private final Row typed = new Row();
    private final int[] earned = new int[MOST_PERSONS];
    private int personCount;
    private final Claim[] claims = new Claim[MOST_CLAIMS];
    private int claimCount;

    private int[] errors = new int[64 * ERRATUM_NUMBERS];
    private int errorCount;
    private int settlings;

    public Witnessworks() {
        for (int i = 0; i < MOST_ENTRIES; i++) {
            book[i] = new Entry();
        }
        for (int i = 0; i < MOST_CHANGES; i++) {
            before[i] = new Entry();
        }
        for (int i = 0; i < MOST_CLAIMS; i++) {
            claims[i] = new Claim();
        }
    }

    // ---- the book ----

    public int open(char kind, int size, int bound) throws IllegalArgumentException, IllegalStateException {
        int index = KINDS.indexOf(kind);
        if (index < 0 || !canHaveSize(index, size) || !canHaveBound(index, bound)) {
            throw new IllegalArgumentException("no such kind, size or bound");
        }
        if (entryCount >= MOST_ENTRIES) {
            throw new IllegalStateException("the book is full");
        }
        book[entryCount].begin(index, size, bound);
        remember('o', entryCount);
        entryCount++;
        return entryCount - 1;
    }

    public int put(int entry, int a, int b, int c, int d, int e)
            throws IndexOutOfBoundsException, IllegalArgumentException, UnsupportedOperationException,
            IllegalStateException {
        Entry asked = entryAt(entry);
        tellNumbers(a, b, c, d, e);
        testItem(asked, asked.itemCount);
        if (asked.itemCount >= mostItems(asked)) {
            throw new IllegalStateException("no more items");
        }
        remember('p', entry);
        asked.setItem(asked.itemCount, told);
        asked.itemCount++;
        asked.isSolved = false;
        return asked.itemCount;
    }

    public int change(int entry, int item, int a, int b, int c, int d, int e)
            throws IndexOutOfBoundsException, NoSuchElementException, IllegalArgumentException,
            UnsupportedOperationException {
        Entry asked = entryAt(entry);
        testPlace(item, asked.itemCount);
        tellNumbers(a, b, c, d, e);
        testItem(asked, item);
        remember('c', entry);
        int others = asked.countUnlike(item, told);
        asked.setItem(item, told);
        asked.isSolved = false;
        return others;
    }

    public int drop(int entry, int item) throws IndexOutOfBoundsException, NoSuchElementException {
        Entry asked = entryAt(entry);
        testPlace(item, asked.itemCount);
        remember('d', entry);
        asked.removeItem(item);
        asked.isSolved = false;
        return asked.itemCount;
    }

    public int setBound(int entry, int bound) throws IndexOutOfBoundsException, IllegalArgumentException {
        Entry asked = refreshed(entry);
        if (!canHaveBound(asked.kind, bound)) {
            throw new IllegalArgumentException("the kind cannot have this bound");
        }
        remember('b', entry);
        int old = asked.boundNow;
        asked.bound = bound;
        asked.leaning = NONE;
        return old;
    }

    public int lean(int entry, int other, int plus)
            throws IndexOutOfBoundsException, IllegalArgumentException, UnsupportedOperationException {
        Entry asked = entryAt(entry);
        entryAt(other);
        if (plus < -MOST_PLUS || plus > MOST_PLUS) {
            throw new IllegalArgumentException("plus is -20 to 20");
        }
        if (leadsTo(other, entry)) {
            throw new UnsupportedOperationException("leaning would go round");
        }
        remember('l', entry);
        asked.leaning = other;
        asked.plus = plus;
        return refreshed(entry).boundNow;
    }

    public int stand(int entry) throws IndexOutOfBoundsException, UnsupportedOperationException {
        Entry asked = refreshed(entry);
        if (asked.leaning < 0) {
            throw new UnsupportedOperationException("it leans on nothing");
        }
        remember('s', entry);
        asked.bound = asked.boundNow;
        asked.leaning = NONE;
        return asked.bound;
    }

    public int carry(int entry, char kind)
            throws IndexOutOfBoundsException, IllegalArgumentException, UnsupportedOperationException,
            IllegalStateException {
        Entry asked = refreshed(entry);
        int index = KINDS.indexOf(kind);
        if (index < 0) {
            throw new IllegalArgumentException("no such kind");
        }
        if (!house.carriesOver(asked, index, draft)) {
            throw new UnsupportedOperationException("it cannot be carried over");
        }
        if (entryCount >= MOST_ENTRIES) {
            throw new IllegalStateException("the book is full");
        }
        Entry made = book[entryCount];
        made.begin(index, draft.size, draft.bound);
        made.copyQuestion(draft);
        made.origin = entry;
        remember('y', entryCount);
        entryCount++;
        return entryCount - 1;
    }

    public char undo() throws NoSuchElementException {
        if (changeCount == 0) {
            throw new NoSuchElementException("nothing to undo");
        }
        changeCount--;
        int slot = (firstChange + changeCount) % MOST_CHANGES;
        char letter = changeLetters[slot];
        int entry = changedEntries[slot];
        if (letter == 'o' || letter == 'y') {
            forgetEntry(entry);
        } else {
            book[entry].copyQuestion(before[slot]);
            book[entry].isSolved = false;
        }
        return letter;
    }

    // ---- what is told ----

    public int entries() {
        return entryCount;
    }

    public char kindOf(int entry) throws IndexOutOfBoundsException {
        return KINDS.charAt(entryAt(entry).kind);
    }

    public int sizeOf(int entry) throws IndexOutOfBoundsException {
        return entryAt(entry).size;
    }

    public int boundOf(int entry) throws IndexOutOfBoundsException {
        return refreshed(entry).boundNow;
    }

    public int items(int entry) throws IndexOutOfBoundsException {
        return entryAt(entry).itemCount;
    }

    public int item(int entry, int item, int index)
            throws IndexOutOfBoundsException, NoSuchElementException, IllegalArgumentException {
        Entry asked = entryAt(entry);
        testPlace(item, asked.itemCount);
        testRange(index, 0, ITEM_NUMBERS - 1);
        return asked.at(item, index);
    }

    public int leansOn(int entry) throws IndexOutOfBoundsException, NoSuchElementException {
        Entry asked = entryAt(entry);
        if (asked.leaning < 0) {
            throw new NoSuchElementException("it leans on nothing");
        }
        return asked.leaning;
    }

    public int cameFrom(int entry) throws IndexOutOfBoundsException, NoSuchElementException {
        Entry asked = entryAt(entry);
        if (asked.origin < 0) {
            throw new NoSuchElementException("it came from none");
        }
        return asked.origin;
    }

    // ---- answers ----

    public char answer(int entry) throws IndexOutOfBoundsException {
        return refreshed(entry).reply;
    }

    public int number(int entry) throws IndexOutOfBoundsException {
        return refreshed(entry).told;
    }

    public int length(int entry) throws IndexOutOfBoundsException {
        return refreshed(entry).row.count;
    }

    public int sign(int entry, int index) throws IndexOutOfBoundsException, NoSuchElementException {
        Row row = refreshed(entry).row;
        testPlace(index, row.count);
        return row.at(index);
    }

    public long rowSum(int entry) throws IndexOutOfBoundsException {
        return refreshed(entry).row.total();
    }

    // ---- of one kind alone ----

    public char part(int entry, int node)
            throws IndexOutOfBoundsException, UnsupportedOperationException, IllegalArgumentException {
        Entry asked = refreshed(entry);
        testKind(asked, PAIRINGS);
        testRange(node, 0, asked.size - 1);
        return house.networks.partOf(asked, node);
    }

    public boolean isNarrow(int entry, int item)
            throws IndexOutOfBoundsException, UnsupportedOperationException, NoSuchElementException {
        Entry asked = refreshed(entry);
        testKind(asked, FLOWS);
        testPlace(item, asked.itemCount);
        return house.networks.isNarrowItem(asked, item);
    }

    public int walk(int entry, int index)
            throws IndexOutOfBoundsException, UnsupportedOperationException, NoSuchElementException {
        Entry asked = refreshed(entry);
        testKind(asked, DRAWINGS);
        testPlace(index, asked.told);
        return house.drawings.goingsOf(asked, index);
    }

    public boolean isTight(int entry, int item)
            throws IndexOutOfBoundsException, UnsupportedOperationException, NoSuchElementException {
        Entry asked = refreshed(entry);
        testKind(asked, INEQUALITIES);
        testPlace(item, asked.reply == 'y' ? asked.itemCount + 1 : 0);
        return house.inequalities.isTightItem(asked, item);
    }

    public int derivations(int entry) throws IndexOutOfBoundsException, UnsupportedOperationException {
        Entry asked = refreshed(entry);
        testKind(asked, CLAUSES);
        return house.clauses.countDerived(asked);
    }

    public int derived(int entry, int index)
            throws IndexOutOfBoundsException, UnsupportedOperationException, NoSuchElementException {
        Entry asked = refreshed(entry);
        testKind(asked, CLAUSES);
        testPlace(index, house.clauses.countDerived(asked));
        return house.clauses.derivedAt(index);
    }

    public int gap(int entry, int unknown)
            throws IndexOutOfBoundsException, UnsupportedOperationException, IllegalArgumentException,
            NoSuchElementException {
        Entry asked = refreshed(entry);
        testKind(asked, EQUATIONS);
        testRange(unknown, 0, asked.size - 1);
        if (asked.reply != 'y') {
            throw new NoSuchElementException("there is a refutation");
        }
        return house.numbers.gapOf(asked, unknown);
    }

    public int power(int entry, int base, int exponent)
            throws IndexOutOfBoundsException, UnsupportedOperationException, IllegalArgumentException {
        Entry asked = refreshed(entry);
        testKind(asked, PRIMES);
        testRange(base, 0, MOST_POWER);
        testRange(exponent, 0, MOST_POWER);
        return restOfPower(base, exponent, asked.boundNow);
    }

    public int orderOf(int entry, int base)
            throws IndexOutOfBoundsException, UnsupportedOperationException, IllegalArgumentException,
            NoSuchElementException {
        Entry asked = refreshed(entry);
        testKind(asked, PRIMES);
        testRange(base, 0, MOST_POWER);
        int exponent = house.numbers.leastExponent(base, asked.boundNow);
        if (exponent == 0) {
            throw new NoSuchElementException("no power has the rest 1");
        }
        return exponent;
    }

    public int rootsIn(int entry, int cuts, int part)
            throws IndexOutOfBoundsException, UnsupportedOperationException, IllegalArgumentException {
        Entry asked = refreshed(entry);
        testKind(asked, ROOTS);
        testRange(cuts, 0, MOST_CUTS);
        testRange(part, 0, (1 << cuts) - 1);
        return house.numbers.countRoots(asked, cuts, part);
    }

    public int orbit(int entry, int point)
            throws IndexOutOfBoundsException, UnsupportedOperationException, IllegalArgumentException {
        Entry asked = refreshed(entry);
        testKind(asked, PERMUTATIONS);
        testRange(point, 0, asked.size - 1);
        return house.words.countLedTo(asked, point);
    }

    public int distance(int entry, int one, int other)
            throws IndexOutOfBoundsException, UnsupportedOperationException, IllegalArgumentException,
            NoSuchElementException {
        Entry asked = refreshed(entry);
        testKind(asked, WORDS);
        testRange(one, 1, MOST_WORD);
        testRange(other, 1, MOST_WORD);
        int steps = house.words.countSteps(asked, one, other);
        if (steps < 0) {
            throw new NoSuchElementException("steps do not lead there");
        }
        return steps;
    }

    public int tells(int entry, int one, int other)
            throws IndexOutOfBoundsException, UnsupportedOperationException, IllegalArgumentException,
            NoSuchElementException {
        Entry asked = refreshed(entry);
        testKind(asked, MACHINES);
        testRange(one, 0, asked.size - 1);
        testRange(other, 0, asked.size - 1);
        int letters = house.machines.lettersThatTell(asked, one, other);
        if (letters < 0) {
            throw new NoSuchElementException("the states are alike");
        }
        return letters;
    }

    public int wins(int entry, int node)
            throws IndexOutOfBoundsException, UnsupportedOperationException, IllegalArgumentException {
        Entry asked = refreshed(entry);
        testKind(asked, GAMES);
        testRange(node, 0, asked.size - 1);
        return house.machines.winnerFrom(asked, node);
    }

    // ---- claims ----

    public int person() throws IllegalStateException {
        if (personCount >= MOST_PERSONS) {
            throw new IllegalStateException("there are 6 persons");
        }
        personCount++;
        return personCount - 1;
    }

    public int type(int number) throws IllegalStateException {
        if (typed.count >= MOST_TYPED) {
            throw new IllegalStateException("the typed row is full");
        }
        typed.add(number);
        return typed.count;
    }

    public int typeMore(int many, int a, int b, int c, int d, int e, int f, int g, int h)
            throws IllegalArgumentException, IllegalStateException {
        testRange(many, 1, MOST_AT_ONCE);
        if (typed.count + many > MOST_TYPED) {
            throw new IllegalStateException("the typed row would be too long");
        }
        int all = typed.count + many;
        typed.add(a);
        typed.addBelow(all, b);
        typed.addBelow(all, c);
        typed.addBelow(all, d);
        typed.addBelow(all, e);
        typed.addBelow(all, f);
        typed.addBelow(all, g);
        typed.addBelow(all, h);
        return typed.count;
    }

    public int alter(int index, int number) throws NoSuchElementException {
        testPlace(index, typed.count);
        int old = typed.at(index);
        typed.set(index, number);
        return old;
    }

    public int wipe() {
        int many = typed.count;
        typed.clear();
        return many;
    }

    public int borrow(int entry) throws IndexOutOfBoundsException, UnsupportedOperationException {
        Entry asked = refreshed(entry);
        if (asked.row.count > MOST_TYPED) {
            throw new UnsupportedOperationException("the row is too long");
        }
        typed.copy(asked.row);
        return typed.count;
    }

    public int bring(int entry) throws IndexOutOfBoundsException, UnsupportedOperationException {
        Entry asked = refreshed(entry);
        if (asked.origin >= 0) {
            refreshed(asked.origin);
        }
        if (!wouldBeCarriedSo(asked)) {
            throw new UnsupportedOperationException("it did not come so from another one");
        }
        if (!house.canBringBack(asked, book[asked.origin])) {
            throw new UnsupportedOperationException("nothing can be brought back");
        }
        house.bringBack(asked, book[asked.origin], typed);
        return typed.count;
    }

    public int check(int entry, boolean isWitness) throws IndexOutOfBoundsException {
        return house.judge(refreshed(entry), typed, isWitness);
    }

    public int claim(int person, int entry, boolean isWitness)
            throws IndexOutOfBoundsException, IllegalStateException {
        if (person < 0 || person >= personCount) {
            throw new IndexOutOfBoundsException("no such person");
        }
        Entry asked = refreshed(entry);
        int condition = house.judge(asked, typed, isWitness);
        if (condition != 0 || standsAlready(entry, isWitness)) {
            return condition;
        }
        if (claimCount >= MOST_CLAIMS) {
            throw new IllegalStateException("16 claims stand");
        }
        claims[claimCount].begin(person, entry, isWitness, typed);
        claimCount++;
        earned[person] += typed.count < asked.row.count ? 3 : 1;
        return 0;
    }

    public int standing() {
        return claimCount;
    }

    public int standingOf(int index, char what) throws NoSuchElementException, IllegalArgumentException {
        testPlace(index, claimCount);
        Claim claim = claims[index];
        if (what == 'p') {
            return claim.person;
        }
        if (what == 'e') {
            return claim.entry;
        }
        if (what == 'w') {
            return claim.isWitness ? 1 : 0;
        }
        if (what == 'l') {
            return claim.row.count;
        }
        throw new IllegalArgumentException("no such letter");
    }

    public int points(int person) throws IndexOutOfBoundsException {
        if (person < 0 || person >= personCount) {
            throw new IndexOutOfBoundsException("no such person");
        }
        return earned[person];
    }

    // ---- settling, sums ----

    public int settle() {
        int ahead = errorCount;
        settlings++;
        for (int entry = 0; entry < entryCount; entry++) {
            settleEntry(entry, refreshed(entry));
            settleClaims(entry);
        }
        return errorCount - ahead;
    }

    public boolean isSettled(int entry) throws IndexOutOfBoundsException {
        Entry asked = refreshed(entry);
        return asked.wasSettled && asked.reply == asked.settledReply && asked.row.isLike(asked.settledRow);
    }

    public int errata() {
        return errorCount;
    }

    public int erratum(int index, char what) throws NoSuchElementException, IllegalArgumentException {
        testPlace(index, errorCount);
        int place = index * ERRATUM_NUMBERS;
        if (what == 's') {
            return errors[place];
        }
        if (what == 'e') {
            return errors[place + 1];
        }
        if (what == 'n') {
            return errors[place + 3];
        }
        throw new IllegalArgumentException("no such letter");
    }

    public char erratumSign(int index) throws NoSuchElementException {
        testPlace(index, errorCount);
        return (char) errors[index * ERRATUM_NUMBERS + 2];
    }

    public float yesShare() throws ArithmeticException {
        if (entryCount == 0) {
            throw new ArithmeticException("no entries");
        }
        int many = 0;
        for (int entry = 0; entry < entryCount; entry++) {
            if (refreshed(entry).reply == 'y') {
                many++;
            }
        }
        return (float) many / (float) entryCount;
    }

    public double meanLength() throws ArithmeticException {
        if (entryCount == 0) {
            throw new ArithmeticException("no entries");
        }
        int sum = 0;
        for (int entry = 0; entry < entryCount; entry++) {
            sum += refreshed(entry).row.count;
        }
        return (double) sum / (double) entryCount;
    }

    public long checksum() {
        long sum = 7;
        for (int entry = 0; entry < entryCount; entry++) {
            Entry asked = refreshed(entry);
            sum = 31 * sum + asked.boundNow;
            sum = 31 * sum + asked.told;
            sum = 31 * sum + asked.reply;
            sum = 31 * sum + asked.row.total();
        }
        return sum;
    }

    public boolean isSound() {
        for (int entry = 0; entry < entryCount; entry++) {
            refreshed(entry);
        }
        for (int entry = 0; entry < entryCount; entry++) {
            if (!isSoundEntry(book[entry])) {
                return false;
            }
        }
        for (int i = 0; i < claimCount; i++) {
            if (isUnsoundClaim(claims[i])) {
                return false;
            }
        }
        return true;
    }

    // ---- what the face needs ----

    private static boolean canHaveSize(int kind, int size) {
        return size >= LEAST_SIZE[kind] && size <= MOST_SIZE[kind];
    }

    private static boolean canHaveBound(int kind, int bound) {
        return bound >= LEAST_BOUND[kind] && bound <= MOST_BOUND[kind];
    }

    private static int mostItems(Entry entry) {
        if (entry.kind == MACHINES || entry.kind == GAMES) {
            return entry.size;
        }
        return MOST_ITEMS[entry.kind];
    }

    private Entry entryAt(int entry) {
        if (entry < 0 || entry >= entryCount) {
            throw new IndexOutOfBoundsException("no such entry");
        }
        return book[entry];
    }

    private static void testPlace(int place, int count) {
        if (place < 0 || place >= count) {
            throw new NoSuchElementException("no such place");
        }
    }

    private static void testRange(int number, int least, int most) {
        if (number < least || number > most) {
            throw new IllegalArgumentException("a number is out of range");
        }
    }

    private static void testKind(Entry entry, int kind) {
        if (entry.kind != kind) {
            throw new UnsupportedOperationException("it is of another kind");
        }
    }

    private void tellNumbers(int a, int b, int c, int d, int e) {
        told[0] = a;
        told[1] = b;
        told[2] = c;
        told[3] = d;
        told[4] = e;
    }

    private void testItem(Entry entry, int item) {
        if (!house.isItemOf(entry, item, told)) {
            throw new IllegalArgumentException("a number is not as its kind tells");
        }
        if (house.isEdgeAgain(entry, item, told)) {
            throw new UnsupportedOperationException("another item is between these two");
        }
    }

    /** The chain of leanings is answered from its far end on, as each bound needs the number of the next one. */
    private Entry refreshed(int entry) {
        Entry asked = entryAt(entry);
        int many = 0;
        int at = entry;
        while (at >= 0 && many < MOST_ENTRIES) {
            leaningChain[many] = at;
            many++;
            at = book[at].leaning;
        }
        for (int i = many - 1; i >= 0; i--) {
            Entry next = book[leaningChain[i]];
            next.boundNow = next.bound;
            if (next.leaning >= 0) {
                int sum = book[next.leaning].told + next.plus;
                next.boundNow = Math.max(LEAST_BOUND[next.kind], Math.min(MOST_BOUND[next.kind], sum));
            }
            if (!next.isSolved || next.solvedBound != next.boundNow) {
                house.solve(next);
            }
        }
        return asked;
    }

    private boolean leadsTo(int from, int to) {
        int at = from;
        for (int step = 0; step < MOST_ENTRIES && at >= 0; step++) {
            if (at == to) {
                return true;
            }
            at = book[at].leaning;
        }
        return false;
    }

    /** Must be called ahead of the change itself, as it keeps what the entry was. */
    private void remember(char letter, int entry) {
        if (changeCount == MOST_CHANGES) {
            firstChange = (firstChange + 1) % MOST_CHANGES;
            changeCount--;
        }
        int slot = (firstChange + changeCount) % MOST_CHANGES;
        changeLetters[slot] = letter;
        changedEntries[slot] = entry;
        before[slot].copyQuestion(book[entry]);
        changeCount++;
    }

    private void forgetEntry(int entry) {
        for (int i = claimCount - 1; i >= 0; i--) {
            if (claims[i].entry == entry) {
                removeClaim(i);
            }
        }
        book[entry].wasSettled = false;
        entryCount--;
    }

    private void removeClaim(int index) {
        Claim gone = claims[index];
        for (int i = index; i < claimCount - 1; i++) {
            claims[i] = claims[i + 1];
        }
        claimCount--;
        claims[claimCount] = gone;
    }

    private boolean standsAlready(int entry, boolean isWitness) {
        for (int i = 0; i < claimCount; i++) {
            Claim claim = claims[i];
            if (claim.entry == entry && claim.isWitness == isWitness && claim.row.isLike(typed)) {
                return true;
            }
        }
        return false;
    }

    /** Both the entry and the one from which it came must be refreshed. */
    private boolean wouldBeCarriedSo(Entry entry) {
        if (entry.origin < 0) {
            return false;
        }
        return house.carriesOver(book[entry.origin], entry.kind, draft) && draft.isSameQuestion(entry);
    }

    private void settleEntry(int entry, Entry now) {
        if (now.wasSettled && now.reply != now.settledReply) {
            addError(entry, now.reply, 0);
        } else if (now.wasSettled && !now.row.isLike(now.settledRow)) {
            addError(entry, 'r', now.row.firstUnlike(now.settledRow));
        }
        now.wasSettled = true;
        now.settledReply = now.reply;
        now.settledRow.copy(now.row);
    }

    private void settleClaims(int entry) {
        int i = 0;
        for (int turn = 0; turn < MOST_CLAIMS && i < claimCount; turn++) {
            int condition = 0;
            if (claims[i].entry == entry) {
                condition = house.judge(book[entry], claims[i].row, claims[i].isWitness);
            }
            if (condition != 0) {
                addError(entry, 'c', condition);
                removeClaim(i);
            } else {
                i++;
            }
        }
    }

    private void addError(int entry, char letter, int number) {
        if (errorCount >= MOST_ERRATA) {
            return;
        }
        int place = errorCount * ERRATUM_NUMBERS;
        if (place >= errors.length) {
            errors = Arrays.copyOf(errors, 2 * errors.length);
        }
        errors[place] = settlings;
        errors[place + 1] = entry;
        errors[place + 2] = letter;
        errors[place + 3] = number;
        errorCount++;
    }

    private boolean isSoundEntry(Entry entry) {
        if (house.judge(entry, entry.row, entry.reply == 'y') != 0) {
            return false;
        }
        return !wouldBeCarriedSo(entry) || book[entry.origin].reply == entry.reply;
    }

    private boolean isUnsoundClaim(Claim claim) {
        Entry asked = book[claim.entry];
        boolean isOther = claim.isWitness != (asked.reply == 'y');
        return isOther && house.judge(asked, claim.row, claim.isWitness) == 0;
    }

    private static boolean has(int set, int node) {
        return (set >> node & 1) != 0;
    }

    private static int lowest(int set) {
        for (int node = 0; node < 31; node++) {
            if (has(set, node)) {
                return node;
            }
        }
        return NONE;
    }

    /** The nodes of the set that hang together with the given one by edges among them. */
    private static int hangingTogether(int[] near, int node, int set) {
        int reached = 1 << node;
        for (int round = 0; round < near.length; round++) {
            int next = reached;
            for (int other = 0; other < near.length; other++) {
                if ((reached >> other & 1) != 0) {
                    next |= near[other] & set;
                }
            }
            reached = next;
        }
        return reached;
    }

    private static long divisorInCommon(long one, long other) {
        long a = Math.abs(one);
        long b = Math.abs(other);
        for (int turn = 0; turn < 200 && b != 0; turn++) {
            long rest = a % b;
            a = b;
            b = rest;
        }
        return a;
    }

    private static int restOfPower(int base, int exponent, int modulus) {
        if (modulus < 1) {
            return 0;
        }
        long rest = 1 % modulus;
        long square = base % modulus;
        int left = exponent;
        for (int turn = 0; turn < 31 && left > 0; turn++) {
            if ((left & 1) == 1) {
                rest = rest * square % modulus;
            }
            square = square * square % modulus;
            left >>= 1;
        }
        return (int) rest;
    }

    /** A row of numbers that grows as it needs to. */
    private static final class Row {
        private static final int LONGEST = 1024;

        int[] numbers = new int[16];
        int count;

        void clear() {
            count = 0;
        }

        void add(int number) {
            if (count >= LONGEST) {
                return;
            }
            if (count >= numbers.length) {
                numbers = Arrays.copyOf(numbers, 2 * numbers.length);
            }
            numbers[count] = number;
            count++;
        }

        void addBelow(int most, int number) {
            if (count < most) {
                add(number);
            }
        }

        int at(int place) {
            return place >= 0 && place < count ? numbers[place] : 0;
        }

        void set(int place, int number) {
            if (place >= 0 && place < count) {
                numbers[place] = number;
            }
        }

        void copy(Row other) {
            if (numbers.length < other.count) {
                numbers = new int[other.numbers.length];
            }
            System.arraycopy(other.numbers, 0, numbers, 0, other.count);
            count = other.count;
        }

        boolean isLike(Row other) {
            return count == other.count && firstUnlike(other) == count;
        }

        int firstUnlike(Row other) {
            int shorter = Math.min(count, other.count);
            for (int i = 0; i < shorter; i++) {
                if (numbers[i] != other.numbers[i]) {
                    return i;
                }
            }
            return shorter;
        }

        long total() {
            long sum = 7;
            for (int i = 0; i < count; i++) {
                sum = 31 * sum + numbers[i];
            }
            return sum;
        }

        boolean liesWithin(int first, int least, int most) {
            for (int i = first; i < count; i++) {
                if (numbers[i] < least || numbers[i] > most) {
                    return false;
                }
            }
            return true;
        }

        boolean isRising(int first) {
            for (int i = first + 1; i < count; i++) {
                if (numbers[i] <= numbers[i - 1]) {
                    return false;
                }
            }
            return true;
        }

        /** Only for numbers that are rising from the place first on. */
        boolean holds(int first, int number) {
            int low = first;
            int high = count - 1;
            for (int turn = 0; turn < 32 && low <= high; turn++) {
                int middle = (low + high) / 2;
                if (numbers[middle] == number) {
                    return true;
                }
                if (numbers[middle] < number) {
                    low = middle + 1;
                } else {
                    high = middle - 1;
                }
            }
            return false;
        }
    }

    /** A question with its answer, and what this was at the last settling. */
    private static final class Entry {
        private static final int MOST_NUMBERS = 80;

        int kind;
        int size;
        int bound;
        int leaning = NONE;
        int plus;
        int origin = NONE;
        int itemCount;
        final int[] numbers = new int[MOST_NUMBERS];

        int boundNow;
        boolean isSolved;
        int solvedBound;
        char reply = 'n';
        int told;
        final Row row = new Row();

        boolean wasSettled;
        char settledReply = 'n';
        final Row settledRow = new Row();

        void begin(int newKind, int newSize, int newBound) {
            kind = newKind;
            size = newSize;
            bound = newBound;
            boundNow = newBound;
            leaning = NONE;
            plus = 0;
            origin = NONE;
            itemCount = 0;
            isSolved = false;
            wasSettled = false;
        }

        void copyQuestion(Entry other) {
            kind = other.kind;
            size = other.size;
            bound = other.bound;
            leaning = other.leaning;
            plus = other.plus;
            origin = other.origin;
            itemCount = other.itemCount;
            System.arraycopy(other.numbers, 0, numbers, 0, MOST_NUMBERS);
        }

        int at(int item, int index) {
            int place = item * ITEM_NUMBERS + index;
            return item >= 0 && item < itemCount && place < MOST_NUMBERS ? numbers[place] : 0;
        }

        void setItem(int item, int[] from) {
            if (item >= 0 && (item + 1) * ITEM_NUMBERS <= MOST_NUMBERS) {
                System.arraycopy(from, 0, numbers, item * ITEM_NUMBERS, ITEM_NUMBERS);
            }
        }

        void addItem(int a, int b, int c) {
            int place = itemCount * ITEM_NUMBERS;
            if (place + ITEM_NUMBERS <= MOST_NUMBERS) {
                numbers[place] = a;
                numbers[place + 1] = b;
                numbers[place + 2] = c;
                numbers[place + 3] = 0;
                numbers[place + 4] = 0;
                itemCount++;
            }
        }

        void addTo(int item, int index, int number) {
            int place = item * ITEM_NUMBERS + index;
            if (place >= 0 && place < MOST_NUMBERS) {
                numbers[place] += number;
            }
        }

        int countUnlike(int item, int[] from) {
            int many = 0;
            for (int index = 0; index < ITEM_NUMBERS; index++) {
                if (at(item, index) != from[index]) {
                    many++;
                }
            }
            return many;
        }

        void removeItem(int item) {
            int place = item * ITEM_NUMBERS;
            int behind = (itemCount - item - 1) * ITEM_NUMBERS;
            if (item >= 0 && behind > 0) {
                System.arraycopy(numbers, place + ITEM_NUMBERS, numbers, place, behind);
            }
            itemCount--;
        }

        /** Compares the bound that this one was told with the bound of the other one as it is now. */
        boolean isSameQuestion(Entry other) {
            if (size != other.size || bound != other.boundNow || itemCount != other.itemCount) {
                return false;
            }
            for (int i = 0; i < itemCount * ITEM_NUMBERS && i < MOST_NUMBERS; i++) {
                if (numbers[i] != other.numbers[i]) {
                    return false;
                }
            }
            return true;
        }

        /** The neighbours of each node by those edges whose numbers are in the set. */
        void fillNear(int[] near, int set) {
            Arrays.fill(near, 0);
            for (int item = 0; item < itemCount; item++) {
                if (has(set, item)) {
                    near[at(item, 0)] |= 1 << at(item, 1);
                    near[at(item, 1)] |= 1 << at(item, 0);
                }
            }
        }

        void tell(boolean isYes, int number) {
            reply = isYes ? 'y' : 'n';
            told = number;
        }

        /** Where kinds ask about one node or state by the bound, that is the last one if the bound is beyond. */
        int nodeAsked() {
            return boundNow < size ? boundNow : size - 1;
        }
    }

    private static final class Claim {
        int person;
        int entry;
        boolean isWitness;
        final Row row = new Row();

        void begin(int newPerson, int newEntry, boolean newIsWitness, Row newRow) {
            person = newPerson;
            entry = newEntry;
            isWitness = newIsWitness;
            row.copy(newRow);
        }
    }

    /** Knows for each kind who solves it, what its items are like, and how it is carried over. */
    private static final class House {
        private static final int MOST_LETTERS = 4;

        final Networks networks = new Networks();
        final Drawings drawings = new Drawings();
        final Inequalities inequalities = new Inequalities();
        final Clauses clauses = new Clauses();
        final Numbers numbers = new Numbers();
        final Words words = new Words();
        final Machines machines = new Machines();
        private final int[] near = new int[9];

        void solve(Entry entry) {
            entry.row.clear();
            switch (entry.kind) {
                case PAIRINGS:
                    networks.solvePairings(entry);
                    break;
                case FLOWS:
                    networks.solveFlows(entry);
                    break;
                case DRAWINGS:
                    drawings.solve(entry);
                    break;
                case INEQUALITIES:
                    inequalities.solve(entry);
                    break;
                case CLAUSES:
                    clauses.solve(entry);
                    break;
                case EQUATIONS:
                    numbers.solveEquations(entry);
                    break;
                case PRIMES:
                    numbers.solvePrimes(entry);
                    break;
                case ROOTS:
                    numbers.solveRoots(entry);
                    break;
                case PERMUTATIONS:
                    words.solvePermutations(entry);
                    break;
                case WORDS:
                    words.solveWords(entry);
                    break;
                case MACHINES:
                    machines.solveMachines(entry);
                    break;
                default:
                    machines.solveGames(entry);
                    break;
            }
            entry.isSolved = true;
            entry.solvedBound = entry.boundNow;
        }

        /** Answers 0 if the row is accepted, otherwise the first condition that it does not fulfil. */
        int judge(Entry entry, Row row, boolean isWitness) {
            switch (entry.kind) {
                case PAIRINGS:
                    return isWitness ? networks.judgePairing(entry, row) : networks.judgeNodes(entry, row);
                case FLOWS:
                    return isWitness ? networks.judgeFlow(entry, row) : networks.judgeBar(entry, row);
                case DRAWINGS:
                    return isWitness ? drawings.judgeDrawing(entry, row) : drawings.judgeCore(entry, row);
                case INEQUALITIES:
                    return isWitness ? inequalities.judgeUnknowns(entry, row) : inequalities.judgeWeights(entry, row);
                case CLAUSES:
                    return isWitness ? clauses.judgeTruths(entry, row) : clauses.judgeTree(entry, row);
                case EQUATIONS:
                    return isWitness ? numbers.judgeUnknowns(entry, row) : numbers.judgeModulus(entry, row);
                case PRIMES:
                    return isWitness ? numbers.judgePrime(entry, row) : numbers.judgeProduct(entry, row);
                case ROOTS:
                    return isWitness ? numbers.judgeParts(entry, row) : numbers.judgeSigns(entry, row);
                case PERMUTATIONS:
                    return isWitness ? words.judgeItems(entry, row) : words.judgeRows(entry, row);
                case WORDS:
                    return isWitness ? words.judgeSteps(entry, row) : words.judgeClosure(entry, row);
                case MACHINES:
                    return isWitness ? machines.judgeLikeness(entry, row) : machines.judgeLetters(entry, row);
                default:
                    return machines.judgeGame(entry, row, isWitness ? 0 : 1);
            }
        }

        /** Whether the five numbers can be the item with this number. */
        boolean isItemOf(Entry entry, int item, int[] told) {
            int last = entry.size - 1;
            switch (entry.kind) {
                case PAIRINGS:
                case DRAWINGS:
                    return areUnlikeNodes(told, last);
                case FLOWS:
                    return areUnlikeNodes(told, last) && isWithin(told[2], 0, 6);
                case INEQUALITIES:
                    return areWithin(told, entry.size, 9) && isWithin(told[4], -60, 60);
                case CLAUSES:
                    return areWithin(told, 3, entry.size) && (told[0] != 0 || told[1] != 0 || told[2] != 0);
                case EQUATIONS:
                    return areWithin(told, entry.size, 6) && isWithin(told[4], -20, 20);
                case PRIMES:
                    return true;
                case ROOTS:
                    return areWithin(told, 4, 7);
                case PERMUTATIONS:
                    return areUnlikePoints(told, last);
                case WORDS:
                    return areWords(told, item == 0 ? MOST_WORD : (2 << MOST_LETTERS) - 1);
                case MACHINES:
                    return isWithin(told[0], 0, last) && isWithin(told[1], 0, last) && isWithin(told[2], 0, 1);
                default:
                    return isGameItem(told, last);
            }
        }

        private static boolean isWithin(int number, int least, int most) {
            return number >= least && number <= most;
        }

        private static boolean areWithin(int[] told, int many, int most) {
            for (int i = 0; i < many && i < told.length; i++) {
                if (!isWithin(told[i], -most, most)) {
                    return false;
                }
            }
            return true;
        }

        private static boolean areUnlikeNodes(int[] told, int last) {
            return isWithin(told[0], 0, last) && isWithin(told[1], 0, last) && told[0] != told[1];
        }

        private static boolean areUnlikePoints(int[] told, int last) {
            int used = 0;
            for (int i = 0; i <= last && i < told.length; i++) {
                if (!isWithin(told[i], 0, last) || has(used, told[i])) {
                    return false;
                }
                used |= 1 << told[i];
            }
            return true;
        }

        private static boolean areWords(int[] told, int most) {
            return isWithin(told[0], 1, most) && isWithin(told[1], 1, most);
        }

        private static boolean isGameItem(int[] told, int last) {
            return isWithin(told[0], 0, 1) && isWithin(told[1], 0, 5) && isWithin(told[2], 0, last)
                    && isWithin(told[3], -1, last) && isWithin(told[4], -1, last);
        }

        boolean isEdgeAgain(Entry entry, int item, int[] told) {
            if (entry.kind != PAIRINGS && entry.kind != DRAWINGS) {
                return false;
            }
            int both = 1 << told[0] | 1 << told[1];
            for (int other = 0; other < entry.itemCount; other++) {
                if (other != item && (1 << entry.at(other, 0) | 1 << entry.at(other, 1)) == both) {
                    return true;
                }
            }
            return false;
        }

        /** Writes into draft what the entry would be in another kind, and tells whether it can be so. */
        boolean carriesOver(Entry entry, int kind, Entry draft) {
            if (entry.kind == PAIRINGS && kind == FLOWS) {
                return carriesPairings(entry, draft);
            }
            if (entry.kind == FLOWS && kind == INEQUALITIES) {
                return carriesFlows(entry, draft);
            }
            if (entry.kind == PAIRINGS && kind == CLAUSES) {
                return carriesEdges(entry, draft);
            }
            return false;
        }

        private boolean carriesPairings(Entry entry, Entry draft) {
            int size = entry.size;
            int left = leftSide(entry);
            if (left < 0 || size + 2 > MOST_SIZE[FLOWS] || size + entry.itemCount > MOST_ITEMS[FLOWS]) {
                return false;
            }
            int alone = Math.max(0, size - entry.boundNow);
            draft.begin(FLOWS, size + 2, (alone + 1) / 2);
            for (int node = 0; node < size; node++) {
                if (has(left, node)) {
                    draft.addItem(0, node + 1, 1);
                } else {
                    draft.addItem(node + 1, size + 1, 1);
                }
            }
            for (int item = 0; item < entry.itemCount; item++) {
                int a = entry.at(item, 0) + 1;
                int b = entry.at(item, 1) + 1;
                boolean isLeft = has(left, a - 1);
                draft.addItem(isLeft ? a : b, isLeft ? b : a, 1);
            }
            return true;
        }

        /** The nodes of the left side as a set, NONE if the nodes cannot be put on two sides. */
        private int leftSide(Entry entry) {
            entry.fillNear(near, ALL_ITEMS);
            int left = 0;
            int right = 0;
            for (int node = 0; node < entry.size; node++) {
                if (!has(left | right, node)) {
                    left |= 1 << node;
                }
                for (int round = 0; round < entry.size; round++) {
                    right |= neighboursOf(left);
                    left |= neighboursOf(right);
                }
            }
            return (left & right) == 0 ? left : NONE;
        }

        private int neighboursOf(int set) {
            int all = 0;
            for (int node = 0; node < near.length; node++) {
                if (has(set, node)) {
                    all |= near[node];
                }
            }
            return all;
        }

        private boolean carriesFlows(Entry entry, Entry draft) {
            int many = entry.itemCount;
            int all = many + 2 * (entry.size - 2) + 2;
            if (many < 1 || many > MOST_SIZE[INEQUALITIES] || all > MOST_ITEMS[INEQUALITIES]) {
                return false;
            }
            draft.begin(INEQUALITIES, many, MOST_BOUND[INEQUALITIES]);
            for (int item = 0; item < many; item++) {
                draft.addItem(0, 0, 0);
                draft.addTo(item, item, 1);
                draft.addTo(item, 4, entry.at(item, 2));
            }
            for (int node = 1; node < entry.size - 1; node++) {
                addBalance(entry, draft, node, -1, 0);
                addBalance(entry, draft, node, 1, 0);
            }
            addBalance(entry, draft, 0, 1, entry.boundNow);
            addBalance(entry, draft, 0, -1, -entry.boundNow);
            return true;
        }

        /** Says that what goes from a node less what comes to it, times sense, is at most the limit. */
        private static void addBalance(Entry entry, Entry draft, int node, int sense, int limit) {
            int made = draft.itemCount;
            draft.addItem(0, 0, 0);
            for (int item = 0; item < entry.itemCount; item++) {
                if (entry.at(item, 0) == node) {
                    draft.addTo(made, item, sense);
                }
                if (entry.at(item, 1) == node) {
                    draft.addTo(made, item, -sense);
                }
            }
            draft.addTo(made, 4, limit);
        }

        private boolean carriesEdges(Entry entry, Entry draft) {
            int many = entry.itemCount;
            if (entry.boundNow != 0 || many < 1 || many > MOST_SIZE[CLAUSES]) {
                return false;
            }
            draft.begin(CLAUSES, many, many);
            for (int node = 0; node < entry.size; node++) {
                if (!addSomeEdge(entry, draft, node)) {
                    return false;
                }
            }
            for (int one = 0; one < many; one++) {
                for (int other = one + 1; other < many; other++) {
                    int ends = 1 << entry.at(other, 0) | 1 << entry.at(other, 1);
                    if (has(ends, entry.at(one, 0)) || has(ends, entry.at(one, 1))) {
                        draft.addItem(-one - 1, -other - 1, 0);
                    }
                }
            }
            return draft.itemCount <= MOST_ITEMS[CLAUSES];
        }

        private static boolean addSomeEdge(Entry entry, Entry draft, int node) {
            int made = draft.itemCount;
            int edges = 0;
            for (int item = 0; item < entry.itemCount; item++) {
                if (entry.at(item, 0) == node || entry.at(item, 1) == node) {
                    if (edges == 0) {
                        draft.addItem(0, 0, 0);
                    }
                    if (edges < 3) {
                        draft.addTo(made, edges, item + 1);
                    }
                    edges++;
                }
            }
            return edges >= 1 && edges <= 3;
        }

        boolean canBringBack(Entry entry, Entry origin) {
            if (entry.kind == FLOWS) {
                return origin.kind == PAIRINGS;
            }
            if (entry.kind == INEQUALITIES) {
                return origin.kind == FLOWS && entry.reply == 'y' && entry.row.at(0) == 1;
            }
            return entry.kind == CLAUSES && origin.kind == PAIRINGS && entry.reply == 'y';
        }

        void bringBack(Entry entry, Entry origin, Row typed) {
            typed.clear();
            if (entry.kind == INEQUALITIES) {
                for (int i = 1; i < entry.row.count; i++) {
                    typed.add(entry.row.at(i));
                }
            } else if (entry.reply == 'y') {
                int ahead = entry.kind == FLOWS ? origin.size : 0;
                bringPairs(entry.row, ahead, origin, typed);
            } else {
                bringNodes(entry.row, origin, typed);
            }
        }

        private static void bringPairs(Row row, int ahead, Entry origin, Row typed) {
            for (int node = 0; node < origin.size; node++) {
                typed.add(node);
            }
            for (int item = 0; item < origin.itemCount; item++) {
                if (row.at(ahead + item) == 1) {
                    typed.set(origin.at(item, 0), origin.at(item, 1));
                    typed.set(origin.at(item, 1), origin.at(item, 0));
                }
            }
        }

        private void bringNodes(Row row, Entry origin, Row typed) {
            int left = leftSide(origin);
            for (int node = 0; node < origin.size; node++) {
                boolean isInBar = row.holds(0, node + 1);
                if (has(left, node) != isInBar) {
                    typed.add(node);
                }
            }
        }
    }

    /** Pairings, 'm', and flows, 'f'. */
    private static final class Networks {
        private static final int MOST_AMOUNT = 70;

        private final int[] near = new int[9];
        private final int[] best = new int[512];
        private final int[] from = new int[10];
        private final int[] to = new int[10];
        private final int[] caps = new int[10];
        private final int[] flow = new int[10];
        private final int[] via = new int[7];
        private final int[] excess = new int[7];
        private int nodeCount;
        private int itemCount;
        private int reached;

        void solvePairings(Entry entry) {
            countPairs(entry);
            int all = (1 << entry.size) - 1;
            int alone = entry.size - 2 * best[all];
            boolean isYes = alone <= entry.boundNow;
            entry.tell(isYes, alone);
            if (isYes) {
                writePairing(entry.size, entry.row);
            } else {
                writeNodes(entry.size, entry.row);
            }
        }

        /** Of each set of nodes, how many pairs there can be within it. */
        private void countPairs(Entry entry) {
            entry.fillNear(near, ALL_ITEMS);
            best[0] = 0;
            for (int set = 1; set < 1 << entry.size && set < best.length; set++) {
                int node = lowest(set);
                int rest = set & ~(1 << node);
                int most = best[rest];
                for (int other = node + 1; other < entry.size; other++) {
                    if (has(rest & near[node], other)) {
                        most = Math.max(most, 1 + best[rest & ~(1 << other)]);
                    }
                }
                best[set] = most;
            }
        }

        /** To be alone is less than to go with a later node, and all earlier ones are told already. */
        private void writePairing(int size, Row row) {
            for (int node = 0; node < size; node++) {
                row.add(node);
            }
            int rest = (1 << size) - 1;
            for (int node = 0; node < size; node++) {
                if (has(rest, node)) {
                    int other = partnerOf(node, rest, size);
                    row.set(node, other);
                    row.set(other, node);
                    rest &= ~(1 << node | 1 << other);
                }
            }
        }

        private int partnerOf(int node, int set, int size) {
            int rest = set & ~(1 << node);
            if (best[rest] == best[set]) {
                return node;
            }
            for (int other = node + 1; other < size; other++) {
                if (has(rest & near[node], other) && best[rest & ~(1 << other)] + 1 == best[set]) {
                    return other;
                }
            }
            return node;
        }

        private void writeNodes(int size, Row row) {
            for (int node = 0; node < size; node++) {
                if (letterOf(size, node) == 'a') {
                    row.add(node);
                }
            }
        }

        private char letterOf(int size, int node) {
            if (canBeAlone(size, node)) {
                return 'd';
            }
            for (int other = 0; other < size; other++) {
                if (has(near[node], other) && canBeAlone(size, other)) {
                    return 'a';
                }
            }
            return 'c';
        }

        private boolean canBeAlone(int size, int node) {
            int all = (1 << size) - 1;
            return best[all & ~(1 << node)] == best[all];
        }

        char partOf(Entry entry, int node) {
            countPairs(entry);
            return letterOf(entry.size, node);
        }

        int judgePairing(Entry entry, Row row) {
            int size = entry.size;
            if (row.count != size || !row.liesWithin(0, 0, size - 1)) {
                return 1;
            }
            entry.fillNear(near, ALL_ITEMS);
            int alone = 0;
            for (int node = 0; node < size; node++) {
                if (row.at(row.at(node)) != node) {
                    return 2;
                }
            }
            for (int node = 0; node < size; node++) {
                if (row.at(node) == node) {
                    alone++;
                } else if (!has(near[node], row.at(node))) {
                    return 3;
                }
            }
            return alone > entry.boundNow ? 4 : 0;
        }

        int judgeNodes(Entry entry, Row row) {
            int size = entry.size;
            if (!row.liesWithin(0, 0, size - 1) || !row.isRising(0)) {
                return 1;
            }
            entry.fillNear(near, ALL_ITEMS);
            int left = (1 << size) - 1;
            for (int i = 0; i < row.count; i++) {
                left &= ~(1 << row.at(i));
            }
            int odd = 0;
            for (int node = 0; node < size; node++) {
                if (has(left, node)) {
                    int together = hangingTogether(near, node, left);
                    odd += Integer.bitCount(together) % 2;
                    left &= ~together;
                }
            }
            return odd > entry.boundNow + row.count ? 0 : 2;
        }

        void solveFlows(Entry entry) {
            loadFlows(entry);
            int most = greatest();
            boolean isYes = entry.boundNow <= most;
            entry.tell(isYes, most);
            if (isYes) {
                Arrays.fill(flow, 0);
                for (int unit = 0; unit < entry.boundNow; unit++) {
                    leadsOn(0, nodeCount - 1, 0);
                }
                lowerAll();
                for (int item = 0; item < itemCount; item++) {
                    entry.row.add(flow[item]);
                }
            } else {
                for (int node = 0; node < nodeCount; node++) {
                    if (has(reached, node)) {
                        entry.row.add(node);
                    }
                }
            }
        }

        private void loadFlows(Entry entry) {
            nodeCount = entry.size;
            itemCount = entry.itemCount;
            for (int item = 0; item < itemCount; item++) {
                from[item] = entry.at(item, 0);
                to[item] = entry.at(item, 1);
                caps[item] = entry.at(item, 2);
            }
        }

        private int greatest() {
            Arrays.fill(flow, 0);
            int amount = 0;
            while (amount < MOST_AMOUNT && leadsOn(0, nodeCount - 1, 0)) {
                amount++;
            }
            return amount;
        }

        /** Leads one more from start to end, changing only the items from least on, if that can be. */
        private boolean leadsOn(int start, int end, int least) {
            reached = 1 << start;
            boolean grows = true;
            for (int round = 0; round < nodeCount && grows; round++) {
                int old = reached;
                for (int item = least; item < itemCount; item++) {
                    reachBy(item);
                }
                grows = old != reached;
            }
            if (!has(reached, end)) {
                return false;
            }
            int at = end;
            for (int step = 0; step < nodeCount && at != start; step++) {
                at = goBack(at);
            }
            return true;
        }

        private void reachBy(int item) {
            int a = from[item];
            int b = to[item];
            if (has(reached, a) && !has(reached, b) && flow[item] < caps[item]) {
                reached |= 1 << b;
                via[b] = 2 * item;
            } else if (has(reached, b) && !has(reached, a) && flow[item] > 0) {
                reached |= 1 << a;
                via[a] = 2 * item + 1;
            }
        }

        private int goBack(int node) {
            int item = via[node] / 2;
            if (via[node] % 2 == 0) {
                flow[item]++;
                return from[item];
            }
            flow[item]--;
            return to[item];
        }

        /** What one item gets less must find another way by later items, as the earlier ones are told already. */
        private void lowerAll() {
            for (int item = 0; item < itemCount; item++) {
                int most = flow[item];
                for (int unit = 0; unit < most && leadsOn(from[item], to[item], item + 1); unit++) {
                    flow[item]--;
                }
            }
        }

        boolean isNarrowItem(Entry entry, int item) {
            loadFlows(entry);
            caps[item]++;
            return greatest() > entry.told;
        }

        int judgeFlow(Entry entry, Row row) {
            loadFlows(entry);
            if (row.count != itemCount) {
                return 1;
            }
            Arrays.fill(excess, 0);
            for (int item = 0; item < itemCount; item++) {
                if (row.at(item) < 0 || row.at(item) > caps[item]) {
                    return 2;
                }
                excess[from[item]] += row.at(item);
                excess[to[item]] -= row.at(item);
            }
            for (int node = 1; node < nodeCount - 1; node++) {
                if (excess[node] != 0) {
                    return 3;
                }
            }
            return excess[0] == entry.boundNow ? 0 : 4;
        }

        int judgeBar(Entry entry, Row row) {
            loadFlows(entry);
            if (row.count == 0 || row.at(0) != 0 || !row.isRising(0) || !row.liesWithin(0, 0, nodeCount - 2)) {
                return 1;
            }
            int lets = 0;
            for (int item = 0; item < itemCount; item++) {
                if (row.holds(0, from[item]) && !row.holds(0, to[item])) {
                    lets += caps[item];
                }
            }
            return lets < entry.boundNow ? 0 : 2;
        }
    }

    /** Drawings in the plane, 'p'. A place of the row stands for the going from its owner to what it names. */
    private static final class Drawings {
        private static final int MOST_NODES = 7;
        private static final int MOST_PLACES = 22;

        private final int[] near = new int[MOST_NODES];
        private final int[] used = new int[MOST_NODES];
        private final int[] firstPlace = new int[MOST_NODES];
        private final int[] owner = new int[MOST_PLACES];
        private final int[] ring = new int[MOST_PLACES];
        private final int[] spot = new int[MOST_NODES * MOST_NODES];
        private final int[] walksDue = new int[MOST_NODES];
        private final int[] ways = new int[MOST_NODES];
        private int nodeCount;
        private int places;

        void solve(Entry entry) {
            int set = countedItems(entry);
            loadEdges(entry, set);
            if (fillsFrom(0)) {
                for (int place = 0; place < places; place++) {
                    entry.row.add(ring[place]);
                }
                entry.tell(true, countWalks(nodeCount - 1));
            } else {
                writeCore(entry, set);
                entry.tell(false, 0);
            }
        }

        private static int countedItems(Entry entry) {
            return (1 << Math.min(entry.boundNow, entry.itemCount)) - 1;
        }

        private void loadEdges(Entry entry, int set) {
            entry.fillNear(near, set);
            Arrays.fill(used, 0);
            nodeCount = entry.size;
            places = 0;
            for (int node = 0; node < nodeCount; node++) {
                firstPlace[node] = places;
                for (int i = Integer.bitCount(near[node]); i > 0 && places < MOST_PLACES; i--) {
                    owner[places] = node;
                    places++;
                }
                walksDue[node] = countWalksDue(node);
            }
        }

        /** How many walks a drawing of the nodes up to the last one has, without all later ones. */
        private int countWalksDue(int last) {
            int set = (2 << last) - 1;
            int ends = 0;
            int nodes = 0;
            int parts = 0;
            int left = set;
            for (int node = 0; node <= last; node++) {
                int degree = Integer.bitCount(near[node] & set);
                ends += degree;
                if (degree > 0) {
                    nodes++;
                    if ((left >> node & 1) != 0) {
                        left &= ~hangingTogether(near, node, set);
                        parts++;
                    }
                }
            }
            return ends / 2 - nodes + 2 * parts;
        }

        /** What is drawn stays drawn if later nodes are left out, so each node's round is tested as it is full. */
        private boolean fillsFrom(int place) {
            boolean isRoundFull = place > 0 && (place == places || owner[place] != owner[place - 1]);
            if (isRoundFull && countWalks(owner[place - 1]) != walksDue[owner[place - 1]]) {
                return false;
            }
            if (place >= places) {
                return true;
            }
            int node = owner[place];
            for (int other = 0; other < nodeCount; other++) {
                if (has(near[node] & ~used[node], other)) {
                    setPlace(place, other);
                    used[node] |= 1 << other;
                    if (fillsFrom(place + 1)) {
                        return true;
                    }
                    used[node] &= ~(1 << other);
                    if (place == firstPlace[node]) {
                        return false;
                    }
                }
            }
            return false;
        }

        private void setPlace(int place, int other) {
            ring[place] = other;
            spot[owner[place] * MOST_NODES + other] = place;
        }

        /** By the rounds of the nodes up to the last one, with all later ones left out. */
        private int countWalks(int last) {
            int seen = 0;
            int walks = 0;
            for (int start = 0; start < places && owner[start] <= last; start++) {
                if (ring[start] <= last && (seen >> start & 1) == 0) {
                    int place = start;
                    for (int goings = 0; goings < MOST_PLACES && (seen >> place & 1) == 0; goings++) {
                        seen |= 1 << place;
                        place = behind(place, last);
                    }
                    walks++;
                }
            }
            return walks;
        }

        /** The going that follows the one at the place, with nodes behind the last one left out. */
        private int behind(int place, int last) {
            int node = ring[place];
            int came = spot[node * MOST_NODES + owner[place]];
            int degree = Integer.bitCount(near[node]);
            int next = came;
            for (int step = 0; step < degree; step++) {
                next++;
                if (next >= firstPlace[node] + degree) {
                    next = firstPlace[node];
                }
                if (ring[next] <= last) {
                    return next;
                }
            }
            return came;
        }

        private void writeCore(Entry entry, int counted) {
            int set = counted;
            for (int item = entry.itemCount - 1; item >= 0; item--) {
                if (has(set, item)) {
                    loadEdges(entry, set & ~(1 << item));
                    if (!fillsFrom(0)) {
                        set &= ~(1 << item);
                    }
                }
            }
            loadEdges(entry, set);
            entry.row.add(countBranches(2) == 5 ? 5 : 3);
            for (int item = 0; item < entry.itemCount; item++) {
                if (has(set, item)) {
                    entry.row.add(item);
                }
            }
        }

        private int countBranches(int most) {
            int many = 0;
            for (int node = 0; node < nodeCount; node++) {
                if (Integer.bitCount(near[node]) > most) {
                    many++;
                }
            }
            return many;
        }

        int goingsOf(Entry entry, int index) {
            loadEdges(entry, countedItems(entry));
            for (int place = 0; place < places; place++) {
                setPlace(place, entry.row.at(place));
            }
            int seen = 0;
            int walks = 0;
            for (int start = 0; start < places; start++) {
                int goings = 0;
                int place = start;
                while (goings < MOST_PLACES && !has(seen, place)) {
                    seen |= 1 << place;
                    goings++;
                    place = behind(place, nodeCount - 1);
                }
                if (goings > 0 && walks == index) {
                    return goings;
                }
                walks += goings > 0 ? 1 : 0;
            }
            return 0;
        }

        int judgeDrawing(Entry entry, Row row) {
            loadEdges(entry, countedItems(entry));
            if (row.count != places) {
                return 1;
            }
            for (int place = 0; place < places; place++) {
                int node = owner[place];
                int other = row.at(place);
                if (other < 0 || other >= nodeCount || !has(near[node] & ~used[node], other)) {
                    return 2;
                }
                if (place == firstPlace[node] && other != lowest(near[node])) {
                    return 2;
                }
                used[node] |= 1 << other;
                setPlace(place, other);
            }
            return countWalks(nodeCount - 1) == walksDue[nodeCount - 1] ? 0 : 3;
        }

        int judgeCore(Entry entry, Row row) {
            int counted = Math.min(entry.boundNow, entry.itemCount);
            int kind = row.at(0);
            if (row.count == 0 || kind != 5 && kind != 3 || !row.liesWithin(1, 0, counted - 1) || !row.isRising(1)) {
                return 1;
            }
            int set = 0;
            for (int i = 1; i < row.count; i++) {
                set |= 1 << row.at(i);
            }
            loadEdges(entry, set);
            if (countBranches(0) != countBranches(1)) {
                return 2;
            }
            if (!areBranchesOf(kind)) {
                return 3;
            }
            return areWaysOf(kind) ? 0 : 4;
        }

        private boolean areBranchesOf(int kind) {
            int degree = kind == 5 ? 4 : 3;
            for (int node = 0; node < nodeCount; node++) {
                int many = Integer.bitCount(near[node]);
                if (many > 2 && many != degree) {
                    return false;
                }
            }
            return countBranches(2) == (kind == 5 ? 5 : 6);
        }

        private boolean areWaysOf(int kind) {
            int goings = 0;
            Arrays.fill(ways, 0);
            for (int node = 0; node < nodeCount; node++) {
                for (int other = 0; other < nodeCount; other++) {
                    if (Integer.bitCount(near[node]) > 2 && has(near[node], other)) {
                        int edges = followWay(node, other);
                        if (edges == 0) {
                            return false;
                        }
                        goings += edges;
                    }
                }
            }
            return goings == places && (kind == 5 || areTwoHalves());
        }

        /** How many edges the way has, 0 if it leads back or to where another one leads already. */
        private int followWay(int start, int first) {
            int behind = start;
            int at = first;
            int goings = 1;
            while (goings < MOST_PLACES && Integer.bitCount(near[at]) == 2) {
                int next = lowest(near[at] & ~(1 << behind));
                behind = at;
                at = next;
                goings++;
            }
            if (at == start || has(ways[start], at)) {
                return 0;
            }
            ways[start] |= 1 << at;
            return goings;
        }

        /** One half must be where the ways of any one node lead. */
        private boolean areTwoHalves() {
            int right = 0;
            int all = 0;
            for (int node = 0; node < nodeCount; node++) {
                if (ways[node] != 0) {
                    all |= 1 << node;
                    right = ways[node];
                }
            }
            for (int node = 0; node < nodeCount; node++) {
                int half = has(right, node) ? right : all & ~right;
                if ((ways[node] & half) != 0) {
                    return false;
                }
            }
            return Integer.bitCount(right) == 3;
        }
    }

    /**
     * Inequalities in fractions, 'l', by tables of whole numbers over one common lower number. Of a table's
     * row: lower times its own unknown, and each number times the unknown of its column, together, is the
     * last number. Unknowns of columns are 0, all are not below 0.
     */
    private static final class Inequalities {
        private static final int MOST_ROWS = 14;
        private static final int MOST_COLUMNS = 18;
        private static final int MOST_TURNS = 100000;

        private final long[][] table = new long[MOST_ROWS][MOST_COLUMNS];
        private final int[] rowLabels = new int[MOST_ROWS];
        private final int[] columnLabels = new int[MOST_COLUMNS];
        private int locked;
        private int rows;
        private int columns;
        private long lower;

        void solve(Entry entry) {
            int many = entry.itemCount + 1;
            loadUnknowns(entry);
            if (isFulfilled()) {
                int slackOfSum = entry.size + entry.itemCount;
                minimise(slackOfSum);
                long most = entry.boundNow * lower - valueOf(slackOfSum);
                entry.tell(true, (int) Math.floorDiv(most, Math.max(1, lower)));
                loadUnknowns(entry);
                isFulfilled();
                writeLeast(entry.size, entry.row);
            } else {
                loadWeights(entry);
                isFulfilled();
                writeLeast(many, entry.row);
                entry.tell(false, 0);
            }
        }

        private static int times(Entry entry, int item, int unknown) {
            return item < entry.itemCount ? entry.at(item, unknown) : 1;
        }

        private static int limitOf(Entry entry, int item) {
            return item < entry.itemCount ? entry.at(item, 4) : entry.boundNow;
        }

        /** The unknowns, and behind them for each inequality what its left side is less than its right one. */
        private void loadUnknowns(Entry entry) {
            rows = entry.itemCount + 1;
            columns = entry.size + rows;
            clearTable();
            for (int item = 0; item < rows; item++) {
                int sense = limitOf(entry, item) < 0 ? -1 : 1;
                for (int unknown = 0; unknown < entry.size; unknown++) {
                    table[item][unknown] = sense * times(entry, item, unknown);
                }
                table[item][entry.size + item] = sense;
                table[item][columns] = sense * limitOf(entry, item);
            }
            begin();
        }

        /** The weights, and behind them for each unknown what its number is above 0. */
        private void loadWeights(Entry entry) {
            int many = entry.itemCount + 1;
            rows = entry.size + 1;
            columns = many + entry.size;
            clearTable();
            for (int item = 0; item < many; item++) {
                for (int unknown = 0; unknown < entry.size; unknown++) {
                    table[unknown][item] = times(entry, item, unknown);
                }
                table[entry.size][item] = -limitOf(entry, item);
            }
            for (int unknown = 0; unknown < entry.size; unknown++) {
                table[unknown][many + unknown] = -1;
            }
            table[entry.size][columns] = 1;
            begin();
        }

        private void clearTable() {
            for (int row = 0; row < MOST_ROWS; row++) {
                Arrays.fill(table[row], 0);
            }
        }

        /** Each row gets an unknown of its own that must become 0; the row behind all is the sum of these. */
        private void begin() {
            lower = 1;
            locked = 0;
            for (int column = 0; column < columns; column++) {
                columnLabels[column] = column;
            }
            for (int row = 0; row < rows; row++) {
                rowLabels[row] = columns + row;
                for (int column = 0; column <= columns; column++) {
                    table[rows][column] += table[row][column];
                }
            }
        }

        private boolean isFulfilled() {
            for (int turn = 0; turn < MOST_TURNS; turn++) {
                if (!improves(rows)) {
                    break;
                }
            }
            lockRising(rows);
            return table[rows][columns] == 0;
        }

        private void minimise(int label) {
            for (int turn = 0; turn < MOST_TURNS; turn++) {
                int row = rowOf(label);
                if (row < 0 || !improves(row)) {
                    break;
                }
            }
            int row = rowOf(label);
            if (row < 0) {
                locked |= 1 << label;
            } else {
                lockRising(row);
            }
        }

        /** What is the least now must stay so: unknowns by which it would rise stay 0 from here on. */
        private void lockRising(int row) {
            for (int column = 0; column < columns; column++) {
                if (table[row][column] < 0) {
                    locked |= 1 << columnLabels[column];
                }
            }
        }

        /** Always the lowest label that will do, so that no table comes twice. */
        private boolean improves(int goal) {
            int column = NONE;
            for (int c = 0; c < columns; c++) {
                boolean isLower = column < 0 || columnLabels[c] < columnLabels[column];
                if (table[goal][c] > 0 && (locked >> columnLabels[c] & 1) == 0 && isLower) {
                    column = c;
                }
            }
            if (column < 0) {
                return false;
            }
            int row = leavingRow(column);
            if (row < 0) {
                return false;
            }
            exchange(row, column);
            return true;
        }

        private int leavingRow(int column) {
            int best = NONE;
            for (int row = 0; row < rows; row++) {
                if (table[row][column] > 0) {
                    int old = Math.max(best, 0);
                    long one = table[row][columns] * table[old][column];
                    long two = table[old][columns] * table[row][column];
                    if (best < 0 || one < two || one == two && rowLabels[row] < rowLabels[old]) {
                        best = row;
                    }
                }
            }
            return best;
        }

        private void exchange(int row, int column) {
            long by = table[row][column];
            if (by < 1 || lower < 1) {
                return;
            }
            for (int r = 0; r <= rows; r++) {
                long times = table[r][column];
                if (r != row) {
                    for (int c = 0; c <= columns; c++) {
                        table[r][c] = (by * table[r][c] - times * table[row][c]) / lower;
                    }
                    table[r][column] = -times;
                }
            }
            table[row][column] = lower;
            lower = by;
            int left = rowLabels[row];
            rowLabels[row] = columnLabels[column];
            columnLabels[column] = left;
            if (left >= columns) {
                locked |= 1 << left;
            }
        }

        private int rowOf(int label) {
            for (int row = 0; row < rows; row++) {
                if (rowLabels[row] == label) {
                    return row;
                }
            }
            return NONE;
        }

        private long valueOf(int label) {
            int row = rowOf(label);
            return row < 0 ? 0 : table[row][columns];
        }

        private void writeLeast(int many, Row row) {
            for (int label = 0; label < many; label++) {
                minimise(label);
            }
            long common = lower;
            for (int label = 0; label < many; label++) {
                common = divisorInCommon(common, valueOf(label));
            }
            if (common < 1) {
                return;
            }
            row.add((int) (lower / common));
            for (int label = 0; label < many; label++) {
                row.add((int) (valueOf(label) / common));
            }
        }

        /** What the left side of an inequality is by the unknowns of a row, times the lower number. */
        private static long leftSideBy(Entry entry, int item, Row row) {
            long sum = 0;
            for (int unknown = 0; unknown < entry.size; unknown++) {
                sum += (long) times(entry, item, unknown) * row.at(unknown + 1);
            }
            return sum;
        }

        private static long rightSideBy(Entry entry, int item, Row row) {
            return (long) limitOf(entry, item) * row.at(0);
        }

        boolean isTightItem(Entry entry, int item) {
            return leftSideBy(entry, item, entry.row) == rightSideBy(entry, item, entry.row);
        }

        int judgeUnknowns(Entry entry, Row row) {
            if (row.count != entry.size + 1 || row.at(0) < 1) {
                return 1;
            }
            if (!row.liesWithin(1, 0, GREATEST)) {
                return 2;
            }
            for (int item = 0; item <= entry.itemCount; item++) {
                if (leftSideBy(entry, item, row) > rightSideBy(entry, item, row)) {
                    return item < entry.itemCount ? 3 : 4;
                }
            }
            return 0;
        }

        int judgeWeights(Entry entry, Row row) {
            int many = entry.itemCount + 1;
            if (row.count != many + 1 || row.at(0) < 1) {
                return 1;
            }
            if (!row.liesWithin(1, 0, GREATEST)) {
                return 2;
            }
            for (int unknown = 0; unknown < entry.size; unknown++) {
                long sum = 0;
                for (int item = 0; item < many; item++) {
                    sum += (long) times(entry, item, unknown) * row.at(item + 1);
                }
                if (sum < 0) {
                    return 3;
                }
            }
            long something = 0;
            for (int item = 0; item < many; item++) {
                something += (long) limitOf(entry, item) * row.at(item + 1);
            }
            return something == -(long) row.at(0) ? 0 : 4;
        }
    }

    /** Clauses, 's'. Truths that are 1 are kept as a set. */
    private static final class Clauses {
        private static final int MOST_DERIVED = 128;
        private static final int SAYS_NOT = 64;

        private final int[] stack = new int[8];
        private final int[] codes = new int[MOST_DERIVED];
        private int codeCount;
        private int stackCount;
        private int depth;
        private int ones;
        private boolean isAtEnd;

        void solve(Entry entry) {
            int size = entry.size;
            int many = 0;
            for (int told = 0; told < 1 << size; told++) {
                if (isFulfilled(entry, told)) {
                    if (many == 0) {
                        writeTruths(told, size, entry.row);
                    }
                    many++;
                }
            }
            entry.tell(many > 0, many);
            if (many == 0) {
                goThrough(entry, entry.row);
            }
        }

        /** Rows are told as numbers whose highest digit is the truth 0, so that they come in their order. */
        private boolean isFulfilled(Entry entry, int told) {
            depth = entry.size;
            ones = 0;
            for (int truth = 0; truth < depth; truth++) {
                if (has(told, depth - 1 - truth)) {
                    ones |= 1 << truth;
                }
            }
            return Integer.bitCount(ones) <= entry.boundNow && brokenItem(entry) < 0;
        }

        private static void writeTruths(int told, int size, Row row) {
            for (int truth = 0; truth < size; truth++) {
                row.add(has(told, size - 1 - truth) ? 1 : 0);
            }
        }

        /** The lowest item all of whose signs are known not to hold, NONE if there is none. */
        private int brokenItem(Entry entry) {
            for (int item = 0; item < entry.itemCount; item++) {
                if (isBroken(entry, item)) {
                    return item;
                }
            }
            return NONE;
        }

        private boolean isBroken(Entry entry, int item) {
            for (int index = 0; index < 3; index++) {
                int sign = entry.at(item, index);
                int truth = Math.abs(sign) - 1;
                if (sign != 0 && (truth >= depth || has(ones, truth) == sign > 0)) {
                    return false;
                }
            }
            return true;
        }

        private void begin() {
            depth = 0;
            ones = 0;
            isAtEnd = false;
            codeCount = 0;
            stackCount = 0;
        }

        /** Goes through the tree; with a row, its leaves are written there. */
        private void goThrough(Entry entry, Row row) {
            begin();
            for (int turn = 0; turn < MOST_DERIVED && !isAtEnd; turn++) {
                int item = brokenItem(entry);
                if (item >= 0 || Integer.bitCount(ones) > entry.boundNow) {
                    if (row != null) {
                        row.add(item);
                    }
                    derive(item >= 0 ? codeOf(entry, item) : ones * SAYS_NOT);
                    goBack();
                } else {
                    depth++;
                }
            }
        }

        private void goBack() {
            while (depth > 0 && has(ones, depth - 1)) {
                depth--;
                ones &= ~(1 << depth);
                deriveAt(depth);
            }
            if (depth == 0) {
                isAtEnd = true;
            } else {
                ones |= 1 << depth - 1;
            }
        }

        private static int codeOf(Entry entry, int item) {
            int code = 0;
            for (int index = 0; index < 3; index++) {
                int sign = entry.at(item, index);
                if (sign > 0) {
                    code |= 1 << sign - 1;
                } else if (sign < 0) {
                    code |= SAYS_NOT << -sign - 1;
                }
            }
            return code;
        }

        private void derive(int code) {
            if (codeCount < MOST_DERIVED) {
                codes[codeCount] = code;
                codeCount++;
            }
            if (stackCount < stack.length) {
                stack[stackCount] = code;
                stackCount++;
            }
        }

        private void deriveAt(int truth) {
            if (stackCount < 2) {
                return;
            }
            int side0 = stack[stackCount - 2];
            int side1 = stack[stackCount - 1];
            int is1 = 1 << truth;
            int is0 = SAYS_NOT << truth;
            stackCount -= 2;
            if ((side0 & is1) == 0) {
                derive(side0);
            } else if ((side1 & is0) == 0) {
                derive(side1);
            } else {
                derive(side0 & ~is1 | side1 & ~is0);
            }
        }

        int countDerived(Entry entry) {
            codeCount = 0;
            if (entry.reply == 'n') {
                goThrough(entry, null);
            }
            return codeCount;
        }

        /** Of those that were counted last. */
        int derivedAt(int index) {
            return index >= 0 && index < codeCount ? codes[index] : 0;
        }

        int judgeTruths(Entry entry, Row row) {
            if (row.count != entry.size || !row.liesWithin(0, 0, 1)) {
                return 1;
            }
            depth = entry.size;
            ones = 0;
            for (int truth = 0; truth < depth; truth++) {
                ones |= row.at(truth) << truth;
            }
            if (Integer.bitCount(ones) > entry.boundNow) {
                return 2;
            }
            return brokenItem(entry) < 0 ? 0 : 3;
        }

        int judgeTree(Entry entry, Row row) {
            if (!row.liesWithin(0, -1, entry.itemCount - 1)) {
                return 1;
            }
            begin();
            int place = 0;
            for (int turn = 0; turn < MOST_DERIVED && !isAtEnd; turn++) {
                if (place < row.count && isLeaf(entry, row.at(place))) {
                    place++;
                    goBack();
                } else if (depth < entry.size) {
                    depth++;
                } else {
                    return 2;
                }
            }
            return place == row.count ? 0 : 3;
        }

        private boolean isLeaf(Entry entry, int leaf) {
            if (leaf >= 0) {
                return isBroken(entry, leaf);
            }
            return Integer.bitCount(ones) > entry.boundNow;
        }
    }

    /** Equations in whole numbers, 'd', primes, 'n', and roots, 'r'. */
    private static final class Numbers {
        private static final int MOST_UNKNOWNS = 4;
        private static final int MOST_MODULUS = 1000;
        private static final int MOST_DEEP = 40;
        private static final int DEEPEST_CUT = 16;
        private static final int MOST_CHAIN = 5;
        private static final int MOST_TURNS = 1000;

        private final long[] point = new long[MOST_UNKNOWNS];
        private final long[][] basis = new long[MOST_UNKNOWNS][MOST_UNKNOWNS];
        private final long[] amounts = new long[MOST_UNKNOWNS];
        private int basisCount;

        private final long[][] chain = new long[MOST_CHAIN][4];
        private final int[] degrees = new int[MOST_CHAIN];
        private final long[] left = new long[4];
        private final long[] often = new long[4];
        private int chainCount;

        void solveEquations(Entry entry) {
            if (findPoint(entry)) {
                entry.tell(true, 0);
                for (int unknown = 0; unknown < entry.size; unknown++) {
                    takeLeastAmount(unknown);
                }
                for (int unknown = 0; unknown < entry.size; unknown++) {
                    entry.row.add((int) point[unknown]);
                }
            } else {
                writeModulus(entry);
                entry.tell(false, entry.row.at(0));
            }
        }

        private static int rightSide(Entry entry, int item) {
            return item == entry.itemCount - 1 ? entry.boundNow : entry.at(item, 4);
        }

        /** All that fulfils the items is the point and whole multiples of the basis, if there is any. */
        private boolean findPoint(Entry entry) {
            basisCount = entry.size;
            Arrays.fill(point, 0);
            for (int i = 0; i < MOST_UNKNOWNS; i++) {
                Arrays.fill(basis[i], 0);
                basis[i][i] = 1;
            }
            for (int item = 0; item < entry.itemCount; item++) {
                if (!fulfilItem(entry, item)) {
                    return false;
                }
            }
            return true;
        }

        private boolean fulfilItem(Entry entry, int item) {
            long missing = rightSide(entry, item);
            for (int unknown = 0; unknown < entry.size; unknown++) {
                missing -= entry.at(item, unknown) * point[unknown];
            }
            for (int i = 0; i < basisCount; i++) {
                amounts[i] = 0;
                for (int unknown = 0; unknown < entry.size; unknown++) {
                    amounts[i] += entry.at(item, unknown) * basis[i][unknown];
                }
            }
            int one = gather();
            if (one < 0 || amounts[one] == 0) {
                return missing == 0;
            }
            if (missing % amounts[one] != 0) {
                return false;
            }
            movePoint(one, missing / amounts[one]);
            removeBasis(one);
            return true;
        }

        /** Changes the basis until at most one of it has an amount other than 0; answers which one. */
        private int gather() {
            for (int turn = 0; turn < MOST_TURNS; turn++) {
                int least = NONE;
                int many = 0;
                for (int i = 0; i < basisCount; i++) {
                    if (amounts[i] != 0) {
                        many++;
                        if (least < 0 || Math.abs(amounts[i]) < Math.abs(amounts[least])) {
                            least = i;
                        }
                    }
                }
                if (many <= 1) {
                    return least;
                }
                takeFromOthers(least);
            }
            return NONE;
        }

        private void takeFromOthers(int one) {
            for (int i = 0; i < basisCount; i++) {
                if (i != one && amounts[one] != 0) {
                    long times = amounts[i] / amounts[one];
                    amounts[i] -= times * amounts[one];
                    for (int unknown = 0; unknown < MOST_UNKNOWNS; unknown++) {
                        basis[i][unknown] -= times * basis[one][unknown];
                    }
                }
            }
        }

        private void movePoint(int one, long times) {
            for (int unknown = 0; unknown < MOST_UNKNOWNS; unknown++) {
                point[unknown] += times * basis[one][unknown];
            }
        }

        private void removeBasis(int one) {
            basisCount--;
            for (int unknown = 0; unknown < MOST_UNKNOWNS; unknown++) {
                basis[one][unknown] = basis[basisCount][unknown];
            }
        }

        private void takeLeastAmount(int unknown) {
            for (int i = 0; i < basisCount; i++) {
                amounts[i] = basis[i][unknown];
            }
            int one = gather();
            if (one < 0 || amounts[one] == 0) {
                return;
            }
            long step = Math.abs(amounts[one]);
            long least = Math.floorMod(point[unknown], step);
            if (least > step - least) {
                least -= step;
            }
            movePoint(one, (least - point[unknown]) / amounts[one]);
            removeBasis(one);
        }

        int gapOf(Entry entry, int unknown) {
            long gap = 0;
            if (findPoint(entry)) {
                for (int i = 0; i < basisCount; i++) {
                    gap = divisorInCommon(gap, basis[i][unknown]);
                }
            }
            return (int) gap;
        }

        private static void writeModulus(Entry entry) {
            boolean hasTwo = entry.itemCount > 1;
            for (int modulus = 2; modulus < MOST_MODULUS; modulus++) {
                for (int one = 0; one < modulus; one++) {
                    for (int other = 0; other < (hasTwo ? modulus : 1); other++) {
                        if (areMultiples(entry, modulus, one, other)
                                && isNoMultiple(entry, modulus, one, other)) {
                            entry.row.add(modulus);
                            entry.row.add(one);
                            entry.row.addBelow(entry.itemCount + 1, other);
                            return;
                        }
                    }
                }
            }
        }

        private static boolean areMultiples(Entry entry, long modulus, long one, long other) {
            for (int unknown = 0; unknown < entry.size; unknown++) {
                long sum = entry.at(0, unknown) * one + entry.at(1, unknown) * other;
                if (modulus < 1 || sum % modulus != 0) {
                    return false;
                }
            }
            return true;
        }

        private static boolean isNoMultiple(Entry entry, long modulus, long one, long other) {
            long sum = 0;
            if (entry.itemCount > 0) {
                sum += rightSide(entry, 0) * one;
            }
            if (entry.itemCount > 1) {
                sum += rightSide(entry, 1) * other;
            }
            return modulus >= 1 && sum % modulus != 0;
        }

        int judgeUnknowns(Entry entry, Row row) {
            if (row.count != entry.size) {
                return 1;
            }
            for (int item = 0; item < entry.itemCount; item++) {
                long sum = 0;
                for (int unknown = 0; unknown < entry.size; unknown++) {
                    sum += (long) entry.at(item, unknown) * row.at(unknown);
                }
                if (sum != rightSide(entry, item)) {
                    return 2;
                }
            }
            return 0;
        }

        int judgeModulus(Entry entry, Row row) {
            if (row.count != entry.itemCount + 1 || row.at(0) < 2) {
                return 1;
            }
            if (!areMultiples(entry, row.at(0), row.at(1), row.at(2))) {
                return 2;
            }
            return isNoMultiple(entry, row.at(0), row.at(1), row.at(2)) ? 0 : 3;
        }

        void solvePrimes(Entry entry) {
            int bound = entry.boundNow;
            int divisor = leastDivisor(bound);
            entry.tell(divisor == bound, divisor);
            if (divisor == bound) {
                writePrime(bound, entry.row, 0);
            } else {
                entry.row.add(divisor);
                entry.row.add(bound / divisor);
            }
        }

        private static int leastDivisor(int number) {
            for (int divisor = 2; divisor <= number / divisor; divisor++) {
                if (number % divisor == 0) {
                    return divisor;
                }
            }
            return number;
        }

        private static void writePrime(int prime, Row row, int deep) {
            row.add(prime);
            if (prime <= 2 || deep > MOST_DEEP) {
                return;
            }
            row.add(baseOf(prime));
            int rest = prime - 1;
            for (int turn = 0; turn < MOST_DEEP && rest > 1; turn++) {
                int divisor = leastDivisor(rest);
                writePrime(divisor, row, deep + 1);
                rest = withoutDivisor(rest, divisor);
            }
        }

        private static int withoutDivisor(int number, int divisor) {
            int rest = number;
            for (int turn = 0; turn < 32 && divisor > 1 && rest > 1 && rest % divisor == 0; turn++) {
                rest /= divisor;
            }
            return rest;
        }

        private static int baseOf(int prime) {
            for (int base = 2; base < prime; base++) {
                if (isBaseOf(base, prime)) {
                    return base;
                }
            }
            return 1;
        }

        /** If a lower power had the rest 1, one by a prime part less of prime - 1 would have it too. */
        private static boolean isBaseOf(int base, int prime) {
            int rest = prime - 1;
            for (int turn = 0; turn < MOST_DEEP && rest > 1; turn++) {
                int divisor = leastDivisor(rest);
                if (divisor < 2 || restOfPower(base, (prime - 1) / divisor, prime) == 1) {
                    return false;
                }
                rest = withoutDivisor(rest, divisor);
            }
            return true;
        }

        /** 0 if there is none. */
        int leastExponent(int base, int modulus) {
            if (modulus < 2) {
                return 0;
            }
            int rest = 1;
            for (int exponent = 1; exponent <= modulus; exponent++) {
                rest = rest * (base % modulus) % modulus;
                if (rest == 1) {
                    return exponent;
                }
            }
            return 0;
        }

        int judgePrime(Entry entry, Row row) {
            if (readPrime(row, 0, 0, false) != row.count) {
                return 1;
            }
            if (row.at(0) != entry.boundNow) {
                return 2;
            }
            return readPrime(row, 0, 0, true) == row.count ? 0 : 3;
        }

        /** Answers the place behind what was read from first on, NONE if it cannot be read or powers fail. */
        private static int readPrime(Row row, int first, int deep, boolean withPowers) {
            int prime = row.at(first);
            if (first >= row.count || prime < 2 || deep > MOST_DEEP) {
                return NONE;
            }
            if (prime == 2) {
                return first + 1;
            }
            int base = row.at(first + 1);
            if (base < 1 || base >= prime || withPowers && restOfPower(base, prime - 1, prime) != 1) {
                return NONE;
            }
            int place = first + 2;
            int ahead = 1;
            int rest = prime - 1;
            for (int turn = 0; turn < MOST_DEEP && rest != 1 && place < row.count; turn++) {
                int divisor = row.at(place);
                if (divisor <= ahead || rest % divisor != 0) {
                    return NONE;
                }
                if (withPowers && restOfPower(base, (prime - 1) / divisor, prime) == 1) {
                    return NONE;
                }
                place = readPrime(row, place, deep + 1, withPowers);
                if (place < 0) {
                    return NONE;
                }
                ahead = divisor;
                rest = withoutDivisor(rest, divisor);
            }
            return rest == 1 ? place : NONE;
        }

        int judgeProduct(Entry entry, Row row) {
            if (row.count != 2 || row.at(0) < 2 || row.at(1) < 2) {
                return 1;
            }
            return (long) row.at(0) * row.at(1) == entry.boundNow ? 0 : 2;
        }

        void solveRoots(Entry entry) {
            buildChain(entry);
            int roots = rootsOfPart(0, 0);
            boolean isYes = roots >= entry.boundNow;
            entry.tell(isYes, roots);
            if (isYes) {
                writeParts(0, 0, entry.row);
            } else {
                for (int i = 0; i < 2 * chainCount; i++) {
                    entry.row.add(signInRow(i));
                }
            }
        }

        private void writeParts(int cuts, int part, Row row) {
            int roots = rootsOfPart(cuts, part);
            if (roots == 1) {
                row.add(cuts);
                row.add(part);
            } else if (roots > 1 && cuts < DEEPEST_CUT) {
                writeParts(cuts + 1, 2 * part, row);
                writeParts(cuts + 1, 2 * part + 1, row);
            }
        }

        int countRoots(Entry entry, int cuts, int part) {
            buildChain(entry);
            return rootsOfPart(cuts, part);
        }

        private int rootsOfPart(int cuts, int part) {
            return changesAt(cuts, part) - changesAt(cuts, part + 1);
        }

        /** First with the polynomial itself, whose last one is the divisor in common; then with the plain one. */
        private void buildChain(Entry entry) {
            chainCount = 0;
            for (int i = 0; i < 4; i++) {
                chain[0][i] = entry.at(0, i);
            }
            int degree = degreeOf(chain[0]);
            if (degree < 0) {
                return;
            }
            degrees[0] = degree;
            continueChain();
            divideFirst(chainCount - 1);
            continueChain();
        }

        private static int degreeOf(long[] polynomial) {
            int degree = NONE;
            for (int i = 0; i < polynomial.length; i++) {
                if (polynomial[i] != 0) {
                    degree = i;
                }
            }
            return degree;
        }

        private void continueChain() {
            chainCount = 1;
            if (degrees[0] == 0) {
                return;
            }
            Arrays.fill(chain[1], 0);
            for (int i = 1; i < 4; i++) {
                chain[1][i - 1] = i * chain[0][i];
            }
            makeFree(chain[1]);
            degrees[1] = degrees[0] - 1;
            chainCount = 2;
            while (chainCount < MOST_CHAIN && degrees[chainCount - 1] > 0 && addRest()) {
                makeFree(chain[chainCount]);
                chainCount++;
            }
        }

        /** Multiplies by what is above 0 alone, so that the rest keeps its sign. */
        private boolean addRest() {
            long[] by = chain[chainCount - 1];
            int degree = degrees[chainCount - 1];
            divide(chain[chainCount - 2], by, degrees[chainCount - 2], degree);
            int newDegree = degreeOf(left);
            if (newDegree < 0) {
                return false;
            }
            for (int i = 0; i < 4; i++) {
                chain[chainCount][i] = -left[i];
            }
            degrees[chainCount] = newDegree;
            return true;
        }

        /** Leaves the rest in left and how often it goes in often, both times the same number above 0. */
        private void divide(long[] what, long[] by, int degree, int byDegree) {
            System.arraycopy(what, 0, left, 0, 4);
            Arrays.fill(often, 0);
            long highest = by[byDegree];
            for (int shift = degree - byDegree; shift >= 0 && highest != 0; shift--) {
                for (int i = 0; i < 4; i++) {
                    left[i] *= Math.abs(highest);
                    often[i] *= Math.abs(highest);
                }
                long times = left[shift + byDegree] / highest;
                often[shift] = times;
                for (int i = 0; i <= byDegree; i++) {
                    left[shift + i] -= times * by[i];
                }
            }
        }

        private void divideFirst(int by) {
            divide(chain[0], chain[by], degrees[0], degrees[by]);
            degrees[0] = Math.max(0, degreeOf(often));
            long sense = often[degrees[0]] < 0 ? -1 : 1;
            for (int i = 0; i < 4; i++) {
                chain[0][i] = sense * often[i];
            }
            makeFree(chain[0]);
        }

        private static void makeFree(long[] polynomial) {
            long common = 0;
            for (int i = 0; i < polynomial.length; i++) {
                common = divisorInCommon(common, polynomial[i]);
            }
            for (int i = 0; i < polynomial.length && common > 1; i++) {
                polynomial[i] /= common;
            }
        }

        /** The changes of sign at the lower end of a part; its number 1 more is that of its upper end. */
        private int changesAt(int cuts, int end) {
            int changes = 0;
            int ahead = 0;
            for (int i = 0; i < chainCount; i++) {
                int sense = senseAt(i, cuts, end);
                if (sense != 0) {
                    changes += ahead != 0 && sense != ahead ? 1 : 0;
                    ahead = sense;
                }
            }
            return changes;
        }

        private int senseAt(int index, int cuts, int end) {
            long over = 16L * end - (8L << cuts);
            long under = 1L << cuts;
            for (int turn = 0; turn < cuts && over % 2 == 0 && under > 1; turn++) {
                over /= 2;
                under /= 2;
            }
            int degree = degrees[index];
            long value = chain[index][degree];
            long unders = 1;
            for (int i = degree - 1; i >= 0; i--) {
                unders *= under;
                value = value * over + chain[index][i] * unders;
            }
            return value > 0 ? 1 : value < 0 ? -1 : 0;
        }

        private int signInRow(int place) {
            return senseAt(place % Math.max(1, chainCount), 0, place < chainCount ? 0 : 1);
        }

        int judgeParts(Entry entry, Row row) {
            if (row.count % 2 != 0 || !areParts(row)) {
                return 1;
            }
            if (!areOrdered(row)) {
                return 2;
            }
            if (row.count / 2 < entry.boundNow) {
                return 3;
            }
            buildChain(entry);
            for (int i = 0; i < row.count; i += 2) {
                if (rootsOfPart(row.at(i), row.at(i + 1)) < 1) {
                    return 4;
                }
            }
            return 0;
        }

        private static boolean areParts(Row row) {
            for (int i = 0; i < row.count; i += 2) {
                int cuts = row.at(i);
                int part = row.at(i + 1);
                if (cuts < 0 || cuts > DEEPEST_CUT || part < 0 || part >= 1 << cuts) {
                    return false;
                }
            }
            return true;
        }

        private static boolean areOrdered(Row row) {
            for (int i = 2; i < row.count; i += 2) {
                long end = (row.at(i - 1) + 1L) << row.at(i);
                long begin = (long) row.at(i + 1) << row.at(i - 2);
                if (begin < end) {
                    return false;
                }
            }
            return true;
        }

        int judgeSigns(Entry entry, Row row) {
            buildChain(entry);
            if (row.count != 2 * chainCount) {
                return 1;
            }
            for (int i = 0; i < row.count; i++) {
                if (row.at(i) != signInRow(i)) {
                    return 2;
                }
            }
            return rootsOfPart(0, 0) < entry.boundNow ? 0 : 3;
        }
    }

    /** Permutations, 'g', numbered by their order among all rows of points, and words, 'w'. */
    private static final class Words {
        private static final int MOST_POINTS = 6;
        private static final int MOST_PERMUTATIONS = 720;
        private static final int MOST_WORDS = 256;
        private static final int MOST_NEXT = 96;

        private final int[][] leads = new int[5][MOST_POINTS];
        private final int[] goal = new int[MOST_POINTS];
        private final int[] points = new int[MOST_POINTS];
        private final int[] ledPoints = new int[MOST_POINTS];
        private final int[] queue = new int[MOST_PERMUTATIONS];
        private final int[] aheadOf = new int[MOST_PERMUTATIONS];
        private final int[] cameBy = new int[MOST_PERMUTATIONS];
        private final int[] steps = new int[MOST_WORDS];
        private final int[] next = new int[MOST_NEXT];
        private int nextCount;
        private int size;
        private int lastUsed;

        void solvePermutations(Entry entry) {
            int many = reachAll(entry);
            int asked = rankOf(goal);
            boolean isYes = cameBy[asked] >= 0;
            entry.tell(isYes, many);
            if (isYes) {
                writeItems(asked, entry.row);
            } else {
                writeRows(entry.row);
            }
        }

        private void loadItems(Entry entry) {
            size = entry.size;
            lastUsed = Math.min(entry.boundNow, entry.itemCount - 1);
            for (int point = 0; point < MOST_POINTS; point++) {
                goal[point] = point;
            }
            for (int item = 0; item <= lastUsed; item++) {
                loadPoints(entry, item, leads[item]);
            }
            if (entry.itemCount > 0) {
                loadPoints(entry, 0, goal);
            }
        }

        private static void loadPoints(Entry entry, int item, int[] led) {
            int rest = 15;
            for (int point = 0; point < entry.size && point < 5; point++) {
                led[point] = entry.at(item, point);
                rest -= led[point];
            }
            if (entry.size == MOST_POINTS) {
                led[5] = rest;
            }
        }

        /** Goes through words by their length and then their rows, so that the first one found is the kept one. */
        private int reachAll(Entry entry) {
            loadItems(entry);
            Arrays.fill(cameBy, NONE);
            queue[0] = 0;
            cameBy[0] = 0;
            int many = 1;
            for (int done = 0; done < many; done++) {
                writePoints(queue[done], points);
                for (int item = 1; item <= lastUsed; item++) {
                    for (int point = 0; point < size; point++) {
                        ledPoints[point] = leads[item][points[point]];
                    }
                    int rank = rankOf(ledPoints);
                    if (cameBy[rank] < 0 && many < MOST_PERMUTATIONS) {
                        cameBy[rank] = item;
                        aheadOf[rank] = queue[done];
                        queue[many] = rank;
                        many++;
                    }
                }
            }
            return many;
        }

        private int rankOf(int[] row) {
            int rank = 0;
            for (int i = 0; i < size; i++) {
                int less = 0;
                for (int j = i + 1; j < size; j++) {
                    if (row[j] < row[i]) {
                        less++;
                    }
                }
                rank = rank * (size - i) + less;
            }
            return rank;
        }

        private void writePoints(int rank, int[] row) {
            int rest = rank;
            for (int i = size - 1; i >= 0; i--) {
                row[i] = rest % (size - i);
                rest /= size - i;
            }
            int used = 0;
            for (int i = 0; i < size; i++) {
                row[i] = unusedPoint(used, row[i]);
                used |= 1 << row[i];
            }
        }

        private int unusedPoint(int used, int less) {
            int left = less;
            for (int point = 0; point < size; point++) {
                if (!has(used, point)) {
                    if (left == 0) {
                        return point;
                    }
                    left--;
                }
            }
            return 0;
        }

        private void writeItems(int asked, Row row) {
            int many = 0;
            int rank = asked;
            while (rank != 0 && many < MOST_PERMUTATIONS) {
                queue[many] = cameBy[rank];
                many++;
                rank = aheadOf[rank];
            }
            for (int i = many - 1; i >= 0; i--) {
                row.add(queue[i]);
            }
        }

        private void writeRows(Row row) {
            for (int many = 1; many <= size; many++) {
                row.clear();
                row.add(many);
                for (int rank = 0; rank < MOST_PERMUTATIONS; rank++) {
                    if (cameBy[rank] >= 0) {
                        writePoints(rank, points);
                        int code = codeOf(points, many);
                        if (row.count == 1 || row.at(row.count - 1) != code) {
                            row.add(code);
                        }
                    }
                }
                if (!row.holds(1, codeOf(goal, many))) {
                    return;
                }
            }
        }

        private static int codeOf(int[] row, int many) {
            int code = 0;
            for (int i = 0; i < many; i++) {
                code = code * MOST_POINTS + row[i];
            }
            return code;
        }

        int countLedTo(Entry entry, int point) {
            loadItems(entry);
            int reached = 1 << point;
            for (int round = 0; round < size; round++) {
                for (int from = 0; from < size; from++) {
                    for (int item = 1; item <= lastUsed && has(reached, from); item++) {
                        reached |= 1 << leads[item][from];
                    }
                }
            }
            return Integer.bitCount(reached);
        }

        int judgeItems(Entry entry, Row row) {
            loadItems(entry);
            if (!row.liesWithin(0, 1, lastUsed)) {
                return 1;
            }
            for (int point = 0; point < size; point++) {
                int at = point;
                for (int i = 0; i < row.count; i++) {
                    at = leads[row.at(i)][at];
                }
                if (at != goal[point]) {
                    return 2;
                }
            }
            return 0;
        }

        int judgeRows(Entry entry, Row row) {
            loadItems(entry);
            int many = row.at(0);
            if (row.count == 0 || many < 1 || many > size || !row.isRising(1) || !areRowsOf(row, many)) {
                return 1;
            }
            for (int point = 0; point < size; point++) {
                points[point] = point;
            }
            if (!row.holds(1, codeOf(points, many))) {
                return 2;
            }
            for (int i = 1; i < row.count; i++) {
                if (!isLedWithin(row, i, many)) {
                    return 3;
                }
            }
            return row.holds(1, codeOf(goal, many)) ? 4 : 0;
        }

        private boolean areRowsOf(Row row, int many) {
            for (int i = 1; i < row.count; i++) {
                int rest = readCode(row.at(i), many);
                int used = 0;
                for (int j = 0; j < many; j++) {
                    used |= 1 << points[j];
                }
                if (rest != 0 || Integer.bitCount(used) != many || used >> size != 0) {
                    return false;
                }
            }
            return true;
        }

        /** Puts the digits into points; answers what is left of the code, 0 if it has no more of them. */
        private int readCode(int code, int many) {
            int rest = code;
            for (int i = many - 1; i >= 0; i--) {
                points[i] = Math.floorMod(rest, MOST_POINTS);
                rest = Math.floorDiv(rest, MOST_POINTS);
            }
            return rest;
        }

        private boolean isLedWithin(Row row, int place, int many) {
            readCode(row.at(place), many);
            for (int item = 1; item <= lastUsed; item++) {
                for (int i = 0; i < many; i++) {
                    ledPoints[i] = leads[item][points[i]];
                }
                if (!row.holds(1, codeOf(ledPoints, many))) {
                    return false;
                }
            }
            return true;
        }

        private static int firstWord(Entry entry) {
            return entry.itemCount > 0 ? entry.at(0, 0) : 1;
        }

        private static int secondWord(Entry entry) {
            return entry.itemCount > 0 ? entry.at(0, 1) : 1;
        }

        private static int beyondWords(Entry entry) {
            return 2 << entry.boundNow;
        }

        void solveWords(Entry entry) {
            int first = firstWord(entry);
            int second = secondWord(entry);
            int beyond = beyondWords(entry);
            int many = first < beyond ? stepFrom(entry, first) : 0;
            boolean isYes = first < beyond && second < beyond && steps[second] >= 0;
            entry.tell(isYes, many);
            if (isYes) {
                stepFrom(entry, second);
                writeSteps(entry, first);
            } else if (first < beyond) {
                for (int word = 1; word < beyond; word++) {
                    if (steps[word] >= 0) {
                        entry.row.add(word);
                    }
                }
            }
        }

        /** Counts the steps from the start to each word, NONE where they do not lead; answers how many words. */
        private int stepFrom(Entry entry, int start) {
            Arrays.fill(steps, NONE);
            steps[start] = 0;
            queue[0] = start;
            int many = 1;
            for (int done = 0; done < many; done++) {
                findNext(entry, queue[done]);
                for (int i = 0; i < nextCount; i++) {
                    if (steps[next[i]] < 0 && many < MOST_WORDS) {
                        steps[next[i]] = steps[queue[done]] + 1;
                        queue[many] = next[i];
                        many++;
                    }
                }
            }
            return many;
        }

        private void findNext(Entry entry, int word) {
            nextCount = 0;
            for (int item = 1; item < entry.itemCount; item++) {
                replaceAll(entry, word, entry.at(item, 0), entry.at(item, 1));
                replaceAll(entry, word, entry.at(item, 1), entry.at(item, 0));
            }
        }

        private void replaceAll(Entry entry, int word, int old, int put) {
            int all = lettersOf(word);
            int many = lettersOf(old);
            int manyPut = lettersOf(put);
            if (all - many + manyPut > entry.boundNow) {
                return;
            }
            for (int behind = all - many; behind >= 0; behind--) {
                int middle = word >> behind & (1 << many) - 1;
                if (middle + (1 << many) == old) {
                    int ahead = word >> behind + many;
                    int letters = put - (1 << manyPut);
                    addNext((ahead << manyPut | letters) << behind | word & (1 << behind) - 1);
                }
            }
        }

        private void addNext(int word) {
            if (nextCount < MOST_NEXT && word >= 1 && word < MOST_WORDS) {
                next[nextCount] = word;
                nextCount++;
            }
        }

        private static int lettersOf(int word) {
            int letters = 0;
            for (int rest = word >> 1; rest > 0; rest >>= 1) {
                letters++;
            }
            return letters;
        }

        /** Steps are counted from the second word here, as they lead back as well. */
        private void writeSteps(Entry entry, int first) {
            int word = first;
            entry.row.add(word);
            for (int left = steps[first]; left > 0; left--) {
                findNext(entry, word);
                int least = MOST_WORDS;
                for (int i = 0; i < nextCount; i++) {
                    if (steps[next[i]] == left - 1) {
                        least = Math.min(least, next[i]);
                    }
                }
                word = least;
                entry.row.add(word);
            }
        }

        /** NONE if steps do not lead from one to the other one. */
        int countSteps(Entry entry, int one, int other) {
            int beyond = beyondWords(entry);
            if (one >= beyond || other >= beyond) {
                return NONE;
            }
            stepFrom(entry, one);
            return steps[other];
        }

        int judgeSteps(Entry entry, Row row) {
            int last = row.count - 1;
            if (last < 0 || !row.liesWithin(0, 1, beyondWords(entry) - 1) || row.at(0) != firstWord(entry)
                    || row.at(last) != secondWord(entry)) {
                return 1;
            }
            for (int i = 0; i < last; i++) {
                if (!isNext(entry, row.at(i), row.at(i + 1))) {
                    return 2;
                }
            }
            return 0;
        }

        private boolean isNext(Entry entry, int word, int other) {
            findNext(entry, word);
            for (int i = 0; i < nextCount; i++) {
                if (next[i] == other) {
                    return true;
                }
            }
            return false;
        }

        int judgeClosure(Entry entry, Row row) {
            int beyond = beyondWords(entry);
            if (!row.liesWithin(0, 1, beyond - 1) || !row.isRising(0)) {
                return 1;
            }
            int first = firstWord(entry);
            if (first < beyond && !row.holds(0, first) || row.holds(0, secondWord(entry))) {
                return 2;
            }
            for (int i = 0; i < row.count; i++) {
                findNext(entry, row.at(i));
                for (int j = 0; j < nextCount; j++) {
                    if (!row.holds(0, next[j])) {
                        return 3;
                    }
                }
            }
            return 0;
        }
    }

    /** Machines that read, 'a', and games without an end, 'x'. */
    private static final class Machines {
        private static final int MOST_STATES = 8;
        private static final int MOST_WEIGHT = 5;

        private final int[] byZero = new int[MOST_STATES];
        private final int[] byOne = new int[MOST_STATES];
        private final int[] finals = new int[MOST_STATES];
        private final int[] letters = new int[MOST_STATES * MOST_STATES];
        private final int[] owners = new int[MOST_STATES];
        private final int[] weights = new int[MOST_STATES];
        private final int[] ways = new int[MOST_STATES];
        private int size;

        void solveMachines(Entry entry) {
            findLetters(entry);
            int asked = entry.nodeAsked();
            int kinds = 0;
            for (int state = 0; state < size; state++) {
                if (lowestLike(state) == state) {
                    kinds++;
                }
            }
            boolean isYes = lettersAt(0, asked) < 0;
            entry.tell(isYes, kinds);
            if (isYes) {
                for (int state = 0; state < size; state++) {
                    entry.row.add(lowestLike(state));
                }
            } else {
                writeLetters(asked, entry.row);
            }
        }

        private void loadStates(Entry entry) {
            size = entry.size;
            for (int state = 0; state < size; state++) {
                boolean isTold = state < entry.itemCount;
                byZero[state] = isTold ? entry.at(state, 0) : state;
                byOne[state] = isTold ? entry.at(state, 1) : state;
                finals[state] = isTold ? entry.at(state, 2) : 0;
            }
        }

        private int lettersAt(int one, int other) {
            return letters[one * MOST_STATES + other];
        }

        /** For each two states the length of the shortest word that tells them apart, NONE if they are alike. */
        private void findLetters(Entry entry) {
            loadStates(entry);
            Arrays.fill(letters, NONE);
            for (int many = 0; many <= MOST_STATES; many++) {
                for (int one = 0; one < size; one++) {
                    for (int other = 0; other < size; other++) {
                        if (lettersAt(one, other) < 0 && isToldBy(one, other, many)) {
                            letters[one * MOST_STATES + other] = many;
                        }
                    }
                }
            }
        }

        private boolean isToldBy(int one, int other, int many) {
            if (many == 0) {
                return finals[one] != finals[other];
            }
            return lettersAt(byZero[one], byZero[other]) == many - 1
                    || lettersAt(byOne[one], byOne[other]) == many - 1;
        }

        private int lowestLike(int state) {
            for (int other = 0; other < state; other++) {
                if (lettersAt(other, state) < 0) {
                    return other;
                }
            }
            return state;
        }

        private void writeLetters(int asked, Row row) {
            int one = 0;
            int other = asked;
            for (int left = lettersAt(one, other); left > 0; left--) {
                boolean isZero = lettersAt(byZero[one], byZero[other]) == left - 1;
                row.add(isZero ? 0 : 1);
                one = isZero ? byZero[one] : byOne[one];
                other = isZero ? byZero[other] : byOne[other];
            }
        }

        int lettersThatTell(Entry entry, int one, int other) {
            findLetters(entry);
            return lettersAt(one, other);
        }

        int judgeLikeness(Entry entry, Row row) {
            loadStates(entry);
            if (row.count != size || !row.liesWithin(0, 0, size - 1)) {
                return 1;
            }
            for (int one = 0; one < size; one++) {
                for (int other = 0; other < one; other++) {
                    if (row.at(one) == row.at(other) && finals[one] != finals[other]) {
                        return 2;
                    }
                }
            }
            for (int one = 0; one < size; one++) {
                for (int other = 0; other < one; other++) {
                    if (row.at(one) == row.at(other) && !goAlike(row, one, other)) {
                        return 3;
                    }
                }
            }
            return row.at(0) == row.at(entry.nodeAsked()) ? 0 : 4;
        }

        private boolean goAlike(Row row, int one, int other) {
            return row.at(byZero[one]) == row.at(byZero[other]) && row.at(byOne[one]) == row.at(byOne[other]);
        }

        int judgeLetters(Entry entry, Row row) {
            loadStates(entry);
            if (!row.liesWithin(0, 0, 1)) {
                return 1;
            }
            int one = 0;
            int other = entry.nodeAsked();
            for (int i = 0; i < row.count; i++) {
                boolean isZero = row.at(i) == 0;
                one = isZero ? byZero[one] : byOne[one];
                other = isZero ? byZero[other] : byOne[other];
            }
            return finals[one] != finals[other] ? 0 : 2;
        }

        void solveGames(Entry entry) {
            loadNodes(entry);
            int all = (1 << size) - 1;
            int won = wonByFirst(all, 0);
            int start = entry.nodeAsked();
            int winner = has(won, start) ? 0 : 1;
            entry.tell(winner == 0, Integer.bitCount(won));
            for (int node = 0; node < size; node++) {
                entry.row.add(owners[node] == winner ? leastWay(node, winner, start) : NONE);
            }
        }

        private void loadNodes(Entry entry) {
            size = entry.size;
            for (int node = 0; node < size; node++) {
                boolean isTold = node < entry.itemCount;
                owners[node] = isTold ? entry.at(node, 0) : 0;
                weights[node] = isTold ? entry.at(node, 1) : 0;
                ways[node] = isTold ? 0 : 1 << node;
                for (int index = 2; index < ITEM_NUMBERS && isTold; index++) {
                    if (entry.at(node, index) >= 0) {
                        ways[node] |= 1 << entry.at(node, index);
                    }
                }
            }
        }

        /** Takes the lowest way by which the game is still won, and no other one from here on. */
        private int leastWay(int node, int player, int start) {
            int old = ways[node];
            for (int other = 0; other < size; other++) {
                if (has(old, other)) {
                    ways[node] = 1 << other;
                    if (has(wonByFirst((1 << size) - 1, 0), start) == (player == 0)) {
                        return other;
                    }
                }
            }
            ways[node] = old;
            return lowest(old);
        }

        private boolean isWonBy(int player, int start) {
            return has(wonByFirst((1 << size) - 1, 0), start) == (player == 0);
        }

        /** The nodes of the set from which the player 0 wins; the set must lead on within itself from each. */
        private int wonByFirst(int set, int deep) {
            if (set == 0 || deep > MOST_STATES) {
                return 0;
            }
            int weight = greatestWeight(set);
            int player = weight % 2;
            int rest = set & ~drawnTo(withWeight(set, weight), player, set);
            int won = wonByFirst(rest, deep + 1);
            int lost = player == 0 ? rest & ~won : won;
            if (lost == 0) {
                return player == 0 ? set : 0;
            }
            int gone = drawnTo(lost, 1 - player, set);
            int wonOfRest = wonByFirst(set & ~gone, deep + 1);
            return player == 0 ? wonOfRest : wonOfRest | gone;
        }

        private int greatestWeight(int set) {
            int greatest = 0;
            for (int node = 0; node < size; node++) {
                if (has(set, node)) {
                    greatest = Math.max(greatest, weights[node]);
                }
            }
            return Math.min(greatest, MOST_WEIGHT);
        }

        private int withWeight(int set, int weight) {
            int found = 0;
            for (int node = 0; node < size; node++) {
                if (has(set, node) && weights[node] == weight) {
                    found |= 1 << node;
                }
            }
            return found;
        }

        /** The nodes of the set from which the player can bring a play to the goal. */
        private int drawnTo(int goal, int player, int set) {
            int drawn = goal;
            for (int round = 0; round < size; round++) {
                for (int node = 0; node < size; node++) {
                    int onward = ways[node] & set;
                    boolean isDrawn = owners[node] == player ? (onward & drawn) != 0 : (onward & ~drawn) == 0;
                    if (has(set, node) && isDrawn) {
                        drawn |= 1 << node;
                    }
                }
            }
            return drawn;
        }

        int winnerFrom(Entry entry, int node) {
            loadNodes(entry);
            return has(wonByFirst((1 << size) - 1, 0), node) ? 0 : 1;
        }

        int judgeGame(Entry entry, Row row, int player) {
            loadNodes(entry);
            if (row.count != size) {
                return 1;
            }
            for (int node = 0; node < size; node++) {
                int way = row.at(node);
                if (owners[node] != player) {
                    if (way != NONE) {
                        return 1;
                    }
                } else if (way < 0 || way >= size || !has(ways[node], way)) {
                    return 1;
                } else {
                    ways[node] = 1 << way;
                }
            }
            return isWonBy(player, entry.nodeAsked()) ? 0 : 2;
        }
    }
}
