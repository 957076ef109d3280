import java.util.Random;

/**
 * Runs of calls that are made up, on a book and on its model at once; each answer and each exception is compared,
 * and a call that throws must leave all as it was.
 */
public final class WholeTest {
    private static final String KINDS = "mfplsdnrgwax";

    private final Due due;
    private final Random random;
    private Witnessworks w;
    private Model m;
    private StringBuilder run;

    private WholeTest(Due due, long seed) {
        this.due = due;
        this.random = new Random(seed);
    }

    public static void main(String[] args) {
        Due due = new Due();
        int runs = args.length > 0 ? Integer.parseInt(args[0]) : 60;
        long seed = args.length > 1 ? Long.parseLong(args[1]) : 0;
        for (int i = 0; i < runs; i++) {
            new WholeTest(due, seed + i).go(i % 3);
        }
        due.end();
    }

    private int below(int many) {
        return random.nextInt(Math.max(1, many));
    }

    private int between(int least, int most) {
        return least + random.nextInt(Math.max(1, most - least + 1));
    }

    private int anyEntry() {
        return below(30) == 0 ? (below(2) == 0 ? -1 : m.entries()) : below(m.entries());
    }

    private static Object got(Due.Call call) {
        try {
            return call.run();
        } catch (RuntimeException e) {
            return e.getClass().getSimpleName();
        }
    }

    private void both(String what, Due.Call one, Due.Call other) {
        run.append(what).append('\n');
        String before = Due.book(w);
        Object want = got(other);
        Object have = got(one);
        due.is("\n" + (want.equals(have) ? "" : run) + what, want, have);
        if (want instanceof String) {
            due.is("left as it was by " + what, before, Due.book(w));
        }
    }

    private void go(int way) {
        w = new Witnessworks();
        m = new Model();
        run = new StringBuilder();
        String kinds = way == 0 ? KINDS : way == 1 ? "mmmfs" : "mfldngw";
        for (int i = 0; i < 5; i++) {
            open(kinds);
        }
        for (int i = 0; i < 3; i++) {
            both("person", () -> w.person(), () -> m.person());
        }
        for (int i = 0; i < 170; i++) {
            step(kinds);
        }
        due.is("book", w.checksum(), m.checksum());
    }

    private void step(String kinds) {
        int way = below(100);
        if (way < 4) {
            open(kinds);
        } else if (way < 34) {
            item();
        } else if (way < 60) {
            bookCall();
        } else if (way < 80) {
            typing();
        } else if (way < 90) {
            settling();
        } else {
            asking();
        }
    }

    private void open(String kinds) {
        char kind = kinds.charAt(below(kinds.length()));
        int k = KINDS.indexOf(kind);
        int[] most = {5, 4, 5, 2, 4, 3, 1, 1, 4, 1, 5, 4};
        int[] least = {1, 2, 1, 1, 1, 1, 1, 1, 2, 1, 1, 1};
        int size = between(least[k], most[k]);
        int bound = kind == 'n' ? between(2, 60) : between(0, 3);
        if (below(12) == 0) {
            size = between(-1, 10);
            bound = between(-45, 65);
        }
        if (below(20) == 0) {
            kind = (char) below(256);
        }
        char told = kind;
        int s = size;
        int b = bound;
        both("open " + kind + " " + size + " " + bound, () -> w.open(told, s, b), () -> m.open(told, s, b));
    }

    private int[] numbers(int entry) {
        int[] t = new int[5];
        char kind = m.entries() > entry && entry >= 0 ? m.kindOf(entry) : 'm';
        int size = m.entries() > entry && entry >= 0 ? m.sizeOf(entry) : 3;
        for (int i = 0; i < 5; i++) {
            t[i] = below(size);
        }
        if (kind == 'f') {
            t[2] = below(3);
        } else if (kind == 'l' || kind == 'd' || kind == 'r') {
            for (int i = 0; i < 5; i++) {
                t[i] = between(-3, 3);
            }
        } else if (kind == 's') {
            for (int i = 0; i < 3; i++) {
                t[i] = between(-size, size);
            }
        } else if (kind == 'g') {
            int at = below(size);
            for (int i = 0; i < 5; i++) {
                t[i] = (i + at) % size;
            }
        } else if (kind == 'w') {
            t[0] = between(1, 15);
            t[1] = between(1, 15);
        } else if (kind == 'a') {
            t[2] = below(2);
        } else if (kind == 'x') {
            t[0] = below(2);
            t[1] = below(6);
            t[3] = between(-1, size - 1);
        }
        if (below(10) == 0) {
            t[below(5)] = between(-62, 62);
        }
        if (below(40) == 0) {
            t[below(5)] = below(2) == 0 ? Integer.MAX_VALUE : Integer.MIN_VALUE;
        }
        return t;
    }

    private void item() {
        int entry = anyEntry();
        int[] t = numbers(entry);
        String told = entry + " " + java.util.Arrays.toString(t);
        int way = below(10);
        int many = entry >= 0 && entry < m.entries() ? m.items(entry) : 0;
        int item = below(15) == 0 ? between(-1, many) : below(many);
        if (way < 7) {
            both("put " + told, () -> w.put(entry, t[0], t[1], t[2], t[3], t[4]),
                    () -> m.put(entry, t[0], t[1], t[2], t[3], t[4]));
        } else if (way < 9) {
            if (below(4) == 0 && item >= 0 && item < many) {
                for (int i = 0; i < 5; i++) {
                    t[i] = m.item(entry, item, i);
                }
                if (below(2) == 0) {
                    int other = t[0];
                    t[0] = t[1];
                    t[1] = other;
                }
            }
            both("change " + item + " " + told, () -> w.change(entry, item, t[0], t[1], t[2], t[3], t[4]),
                    () -> m.change(entry, item, t[0], t[1], t[2], t[3], t[4]));
        } else {
            both("drop " + entry + " " + item, () -> w.drop(entry, item), () -> m.drop(entry, item));
        }
    }

    private void bookCall() {
        int entry = anyEntry();
        int other = anyEntry();
        int way = below(20);
        if (way < 3) {
            int bound = below(5) == 0 ? between(-50, 70) : between(0, 3);
            both("setBound " + entry + " " + bound, () -> w.setBound(entry, bound), () -> m.setBound(entry, bound));
        } else if (way < 8) {
            int plus = below(8) == 0 ? between(-22, 22) : between(-3, 3);
            both("lean " + entry + " " + other + " " + plus, () -> w.lean(entry, other, plus),
                    () -> m.lean(entry, other, plus));
        } else if (way < 10) {
            both("stand " + entry, () -> w.stand(entry), () -> m.stand(entry));
        } else if (way < 17) {
            char from = entry >= 0 && entry < m.entries() ? m.kindOf(entry) : 'm';
            char kind = below(9) == 0 ? (char) below(128) : from == 'f' ? 'l' : below(2) == 0 ? 's' : 'f';
            both("carry " + entry + " " + kind, () -> w.carry(entry, kind), () -> m.carry(entry, kind));
            if (below(2) == 0) {
                bring(m.entries() - 1);
            }
        } else {
            int times = below(60) == 0 ? 30 : below(6) == 0 ? between(2, 6) : 1;
            for (int i = 0; i < times; i++) {
                both("undo", () -> w.undo(), () -> m.undo());
            }
        }
    }

    private void typing() {
        int entry = anyEntry();
        int number = between(-2, 8);
        boolean isWitness = below(2) == 0;
        int way = below(20);
        if (way < 1) {
            both("type " + number, () -> w.type(number), () -> m.type(number));
        } else if (way < 2) {
            int many = below(5) == 0 ? between(-1, 10) : between(1, 8);
            int[] t = new int[8];
            for (int i = 0; i < 8; i++) {
                t[i] = below(6);
            }
            both("typeMore " + many, () -> w.typeMore(many, t[0], t[1], t[2], t[3], t[4], t[5], t[6], t[7]),
                    () -> m.typeMore(many, t));
        } else if (way < 4) {
            int index = between(-1, 5);
            both("alter " + index + " " + number, () -> w.alter(index, number), () -> m.alter(index, number));
        } else if (way < 5) {
            both("wipe", () -> w.wipe(), () -> m.wipe());
        } else if (way < 10) {
            both("borrow " + entry, () -> w.borrow(entry), () -> m.borrow(entry));
            claim(entry, isWitness);
        } else if (way < 13) {
            bring(entry);
        } else if (way < 14) {
            both("person", () -> w.person(), () -> m.person());
        } else if (way < 16) {
            both("check " + entry + isWitness, () -> w.check(entry, isWitness), () -> m.check(entry, isWitness));
        } else {
            claim(entry, isWitness);
        }
        due.is("typed " + run.length(), typed(), Due.typed(w));
    }

    private void bring(int entry) {
        both("bring " + entry, () -> w.bring(entry), () -> m.bring(entry));
        if (entry >= 0 && entry < m.entries() && got(() -> m.cameFrom(entry)) instanceof Integer) {
            claim(m.cameFrom(entry), m.answer(entry) == 'y');
        }
    }

    private String typed() {
        StringBuilder text = new StringBuilder();
        for (int i = 0;; i++) {
            int place = i;
            Object old = got(() -> m.alter(place, 0));
            if (old instanceof String) {
                return text.toString();
            }
            m.alter(place, (Integer) old);
            text.append(old).append(' ');
        }
    }

    private void claim(int entry, boolean isWitness) {
        int person = between(-1, 4);
        boolean isRight = below(3) > 0 && entry >= 0 && entry < m.entries() ? m.answer(entry) == 'y' : isWitness;
        both("claim " + person + " " + entry + " " + isRight, () -> w.claim(person, entry, isRight),
                () -> m.claim(person, entry, isRight));
    }

    private void settling() {
        int entry = anyEntry();
        int way = below(10);
        if (way < 5) {
            both("settle", () -> w.settle(), () -> m.settle());
        } else {
            both("isSettled " + entry, () -> w.isSettled(entry), () -> m.isSettled(entry));
        }
        both("isSound", () -> w.isSound(), () -> m.isSound());
    }

    private void asking() {
        int entry = anyEntry();
        int index = between(-1, 6);
        char what = "penwlsx".charAt(below(7));
        both("entries", () -> w.entries(), () -> m.entries());
        both("kindOf", () -> w.kindOf(entry), () -> m.kindOf(entry));
        both("sizeOf", () -> w.sizeOf(entry), () -> m.sizeOf(entry));
        both("boundOf", () -> w.boundOf(entry), () -> m.boundOf(entry));
        both("items", () -> w.items(entry), () -> m.items(entry));
        both("item " + index, () -> w.item(entry, index, index), () -> m.item(entry, index, index));
        both("item 0 " + index, () -> w.item(entry, 0, index), () -> m.item(entry, 0, index));
        both("leansOn", () -> w.leansOn(entry), () -> m.leansOn(entry));
        both("cameFrom", () -> w.cameFrom(entry), () -> m.cameFrom(entry));
        both("answer " + entry, () -> w.answer(entry), () -> m.answer(entry));
        both("number " + entry, () -> w.number(entry), () -> m.number(entry));
        both("length " + entry, () -> w.length(entry), () -> m.length(entry));
        both("sign " + entry + " " + index, () -> w.sign(entry, index), () -> m.sign(entry, index));
        both("rowSum " + entry, () -> w.rowSum(entry), () -> m.rowSum(entry));
        both("standing", () -> w.standing(), () -> m.standing());
        both("standingOf", () -> w.standingOf(index, what), () -> m.standingOf(index, what));
        both("points", () -> w.points(index), () -> m.points(index));
        both("errata", () -> w.errata(), () -> m.errata());
        both("erratum", () -> w.erratum(index, what), () -> m.erratum(index, what));
        both("erratumSign", () -> w.erratumSign(index), () -> m.erratumSign(index));
        both("yesShare", () -> w.yesShare(), () -> m.yesShare());
        both("meanLength", () -> w.meanLength(), () -> m.meanLength());
        both("checksum", () -> w.checksum(), () -> m.checksum());
    }
}
