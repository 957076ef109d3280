/** Counts the calls whose answer is not the one that is due, and prints them. */
final class Due {
    private int wrong;
    private int all;

    interface Call {
        Object run();
    }

    void is(String what, Object want, Object got) {
        all++;
        if (!want.equals(got)) {
            wrong++;
            if (wrong <= 40) {
                System.out.println(what + ": due " + want + ", but " + got);
            }
        }
    }

    /** The call must throw exactly this exception. */
    void fails(String what, Class<?> want, Call call) {
        Object got;
        try {
            got = call.run();
        } catch (RuntimeException e) {
            got = e.getClass();
        }
        is(what, want, got);
    }

    void end() {
        System.out.println(all + " answers looked at, " + wrong + " wrong");
        System.exit(wrong == 0 ? 0 : 1);
    }

    /** The kept row of an entry as a text. */
    static String row(Witnessworks w, int entry) {
        StringBuilder text = new StringBuilder();
        for (int i = 0; i < w.length(entry); i++) {
            text.append(i == 0 ? "" : " ").append(w.sign(entry, i));
        }
        return text.toString();
    }

    /** Everything that the face tells of a book, so that two of them can be compared. */
    static String book(Witnessworks w) {
        StringBuilder text = new StringBuilder();
        for (int entry = 0; entry < w.entries(); entry++) {
            text.append(w.kindOf(entry)).append(w.sizeOf(entry)).append('/').append(w.boundOf(entry));
            for (int item = 0; item < w.items(entry); item++) {
                text.append('[');
                for (int index = 0; index < 5; index++) {
                    text.append(w.item(entry, item, index)).append(',');
                }
                text.append(']');
            }
            text.append(leaning(w, entry)).append(w.answer(entry)).append(w.number(entry));
            text.append('(').append(row(w, entry)).append(')').append(w.isSettled(entry)).append('\n');
        }
        text.append("standing ");
        for (int i = 0; i < w.standing(); i++) {
            text.append(w.standingOf(i, 'p')).append(w.standingOf(i, 'e'));
            text.append(w.standingOf(i, 'w')).append(w.standingOf(i, 'l')).append(' ');
        }
        text.append("errata ");
        for (int i = 0; i < w.errata(); i++) {
            text.append(w.erratumSign(i)).append(w.erratum(i, 's')).append(w.erratum(i, 'e'));
            text.append(w.erratum(i, 'n')).append(' ');
        }
        return text.append(w.checksum()).toString();
    }

    private static String leaning(Witnessworks w, int entry) {
        String text;
        try {
            text = "on" + w.leansOn(entry);
        } catch (java.util.NoSuchElementException e) {
            text = "alone";
        }
        try {
            text += "from" + w.cameFrom(entry);
        } catch (java.util.NoSuchElementException e) {
            text += "own";
        }
        return text;
    }

    /** What is typed now, read without leaving a trace. */
    static String typed(Witnessworks w) {
        StringBuilder text = new StringBuilder();
        for (int i = 0; i < 64; i++) {
            int old;
            try {
                old = w.alter(i, 0);
            } catch (java.util.NoSuchElementException e) {
                break;
            }
            w.alter(i, old);
            text.append(old).append(' ');
        }
        return text.toString();
    }
}
