/**
 * A call that must throw, made on one of two books that were made alike: all that the face tells of both must stay
 * alike then, and stay so while all that can be undone is undone.
 */
final class Refused {
    interface Making {
        void run(Witnessworks w);
    }

    interface Call {
        Object run(Witnessworks w);
    }

    private final Due due;
    private final Making making;

    Refused(Due due, Making making) {
        this.due = due;
        this.making = making;
    }

    void by(String what, Class<?> want, Call call) {
        Witnessworks w = made();
        due.fails(what, want, () -> call.run(w));
        due.is(what + " changes nothing", all(made()), all(w));
    }

    void notBy(String what, Object want, Call call) {
        due.is(what, want, call.run(made()));
    }

    private Witnessworks made() {
        Witnessworks w = new Witnessworks();
        making.run(w);
        return w;
    }

    /** Ends with all that can be undone, so the book cannot be used any more. */
    private static String all(Witnessworks w) {
        StringBuilder text = new StringBuilder(Due.book(w) + " typed " + Due.typed(w) + " points ");
        for (int person = 0; person < 6; person++) {
            try {
                text.append(w.points(person)).append(' ');
            } catch (IndexOutOfBoundsException e) {
                text.append("no person ");
            }
        }
        text.append(w.settle()).append(' ').append(Due.book(w));
        for (int i = 0; i < 30; i++) {
            try {
                text.append("undo ").append(w.undo()).append(Due.book(w)).append('\n');
            } catch (java.util.NoSuchElementException e) {
                break;
            }
        }
        return text.toString();
    }
}
