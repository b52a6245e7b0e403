/** Promises 47 to 49: how many, what is kept. */
public final class KeepTest {
    private static final Check check = new Check();

    public static void main(String[] args) {
        many();
        keeping();
        freshAfterAgain();
        whatStays();
        check.end();
    }

    private static void many() {
        IntentVats x = Check.told("cloth about 3; wool about 3 hung; linen about 4 hung; felt; muslin about 9 deep 7 hung; muslin;");
        x.prove(0, 5);
        x.feed(32, 3);
        x.shelf(0, 0, 0);
        x.act(0, 1, 1);
        int[] due = {6, 3, 4, 3, 5, 3, 2};
        for (int what = 0; what < 7; what++) check.due("many " + what, x.many(what), due[what]);
        check.due("purposes of the first", Check.told("cloth about 9; wool;").many(3), 1);
        check.due("purposes", Check.told("cloth about 9; wool about 0; felt about 9; felt about 0; felt about 5;").many(3), 3);
        check.due("many(7)", x.many(7), -1);
        check.due("many(-1)", x.many(-1), -1);
        check.due("many(max)", x.many(Integer.MAX_VALUE), -1);
    }

    private static void keeping() {
        IntentVats x = Check.told("cloth about 3 deep 9; wool hung; slip 70; light 7; vat 3 of 8; strong 2 9; day 4 vat 1;");
        check.due("nothing is kept", x.again(), -3);
        x.roster(2, -1);
        x.seed(99);
        x.days(9);
        String before = Check.look(x);
        check.due("keep", x.keep(), 1);
        check.same("nothing changes", Check.look(x), before);
        x.days(7);
        x.seed(5);
        x.set(0, 0);
        x.set(1, 0);
        x.set(2, 0);
        x.set(3, 0);
        x.fill(0, 0, 9);
        x.fill(0, 1, 1);
        x.roster(5, 2);
        x.cloth(4);
        x.mind(0, 5);
        x.steep(1, 2, 3);
        x.hang(0, 1);
        x.dip(0, 0);
        check.due("again", x.again(), 2);
        check.same("as it was", Check.look(x), before);
        x.days(3);
        check.due("it stays", x.again(), 2);
        check.same("as it was", Check.look(x), before);
        x.cloth(1);
        x.keep();
        String later = Check.look(x);
        Check.millOf(x, "");
        check.due("the latest", x.again(), 3);
        check.same("the latest", Check.look(x), later);
    }

    private static void freshAfterAgain() {
        IntentVats x = new IntentVats();
        x.keep();
        x.cloth(4);
        x.steep(0, 3, 9);
        x.hang(0, 1);
        x.dip(0, 1);
        check.due("again", x.again(), 0);
        x.cloth(1);
        check.same("a new one", Check.cloth(x, 0), "1/0/0/0/0");
    }

    private static void whatStays() {
        IntentVats x = Check.told("cloth;");
        x.keep();
        x.prove(0, 2);
        x.feed(59, 1);
        x.sheet(0, 0, 2);
        x.put(0, 0, 5);
        x.shelf(1, 1, 0);
        x.shelf(0, 0, 0);
        x.act(0, 0, 1);
        String before = Check.look(x);
        check.due("again", x.again(), 1);
        check.same("tape, rows, sheets, shelves, trace", Check.look(x), before);
    }
}
