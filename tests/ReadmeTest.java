/** What README.md tells of its examples, call by call. */
public final class ReadmeTest {
    public static void main(String[] args) {
        Due due = new Due();
        Witnessworks book = new Witnessworks();
        asking(due, book);
        claiming(due, book);
        leaning(due, book);
        due.end();
    }

    private static void asking(Due due, Witnessworks book) {
        due.is("open", 0, book.open('m', 4, 0));
        due.is("put", 1, book.put(0, 0, 1, 0, 0, 0));
        due.is("put", 2, book.put(0, 2, 3, 0, 0, 0));
        due.is("answer", 'y', book.answer(0));
        due.is("sign", 1, book.sign(0, 0));
        due.is("carry", 1, book.carry(0, 'f'));
        due.is("answer of the flow", 'y', book.answer(1));
        due.is("bring", 4, book.bring(1));
        due.is("typed", "1 0 3 2 ", Due.typed(book));
        due.is("check", 0, book.check(0, true));
    }

    private static void claiming(Due due, Witnessworks book) {
        due.is("person", 0, book.person());
        due.is("claim", 0, book.claim(0, 0, true));
        due.is("points", 1, book.points(0));
        due.is("settle", 0, book.settle());
        due.is("drop", 1, book.drop(0, 1));
        due.is("settle behind it", 2, book.settle());
        due.is("the first erratum", 'n', book.erratumSign(0));
        due.is("the second erratum", 'c', book.erratumSign(1));
        due.is("the condition", 3, book.erratum(1, 'n'));
        due.is("undo", 'd', book.undo());
        due.is("answer again", 'y', book.answer(0));
    }

    private static void leaning(Due due, Witnessworks book) {
        due.is("open", 2, book.open('n', 1, 9));
        due.is("number", 3, book.number(2));
        due.is("lean", 2, book.lean(0, 2, -1));
        due.is("setBound", 9, book.setBound(2, 2));
        due.is("boundOf", 1, book.boundOf(0));
        due.is("stand", 1, book.stand(0));
        due.is("boundOf, standing", 1, book.boundOf(0));
    }
}
