/** A book with one entry at hand, for what is worked out by hand; each call of it says what is due. */
final class Desk {
    final Due due;
    final Witnessworks w = new Witnessworks();
    final int entry;

    Desk(Due due, char kind, int size, int bound) {
        this.due = due;
        entry = w.open(kind, size, bound);
    }

    /** Up to five numbers; those that are not told are 0. */
    Desk item(int... numbers) {
        int[] all = java.util.Arrays.copyOf(numbers, 5);
        w.put(entry, all[0], all[1], all[2], all[3], all[4]);
        return this;
    }

    Desk bound(int bound) {
        w.setBound(entry, bound);
        return this;
    }

    private String name(String what) {
        return w.kindOf(entry) + ": " + what;
    }

    void tells(String what, char reply, int number, String row) {
        String want = reply + " " + number + " (" + row + ")";
        String got = w.answer(entry) + " " + w.number(entry) + " (" + Due.row(w, entry) + ")";
        due.is(name(what), want, got);
        due.is(name("sound: " + what), true, w.isSound());
    }

    void witness(String what, int condition, int... row) {
        looks(what, condition, true, row);
    }

    void refutation(String what, int condition, int... row) {
        looks(what, condition, false, row);
    }

    private void looks(String what, int condition, boolean isWitness, int... row) {
        w.wipe();
        for (int number : row) {
            w.type(number);
        }
        String sense = isWitness ? " as a witness " : " as a refutation ";
        due.is(name(what + sense + java.util.Arrays.toString(row)), condition, w.check(entry, isWitness));
    }

    void fails(String what, Class<?> want, Due.Call call) {
        due.fails(name(what), want, call);
    }
}
