/** The boundaries of promises 47 to 49, a method for each sentence: how many, what is kept. */
public final class EdgeKeepTest {
    private static final Check check = new Check();
    private static final int MOST = Integer.MAX_VALUE;
    private static final int LEAST = Integer.MIN_VALUE;

    public static void main(String[] args) {
        manyNone();
        manyMost();
        manyPurposes();
        manyOutside();
        keepAnswers();
        keepNothingThere();
        keepLatest();
        keepAll();
        againNone();
        againAfterRefusals();
        againStays();
        againNoTape();
        againNoRows();
        againNoSheets();
        againNoShelves();
        againNoTrace();
        againZ();
        againFullThenRoom();
        check.end();
    }

    private static void manyNone() {
        check.sentence("47: How many: none");
        for (int what = 0; what < 7; what++) check.due("many(" + what + ")", new IntentVats().many(what), 0);
    }

    private static void manyMost() {
        check.sentence("47: How many: the most of each");
        IntentVats x = new IntentVats();
        for (int i = 0; i < 8; i++) {
            x.cloth(4);
            x.hang(i, 1);
            x.steep(i, i, 99);
        }
        x.prove(0, 10);
        for (int i = 0; i < 25; i++) x.feed(0, 8);
        x.shelf(0, 0, 0);
        x.act(0, 3, 1);
        int[] due = {8, 8, 8, 8, 10, 200, 11};
        for (int what = 0; what < 7; what++) check.due("many(" + what + ")", x.many(what), due[what]);
    }

    private static void manyPurposes() {
        check.sentence("47: PURPOSES that any is ABOUT");
        check.due("nothing is none", Check.told("cloth; cloth;").many(3), 0);
        check.due("0 and 9", Check.told("cloth about 0; cloth about 9 hung; cloth;").many(3), 2);
        check.due("the same", Check.told("cloth about 5; cloth about 5 hung; felt about 5;").many(3), 1);
    }

    private static void manyOutside() {
        check.sentence("47: BAD: another what");
        for (int what : new int[] {-1, 7, MOST, LEAST}) check.bad("many(" + what + ")", x -> x.many(what));
    }

    private static void keepAnswers() {
        check.sentence("48: is kept: 1");
        check.due("keep()", new IntentVats().keep(), 1);
        IntentVats x = Check.busy();
        String before = Check.look(x);
        check.due("keep()", x.keep(), 1);
        check.due("keep()", x.keep(), 1);
        check.same("nothing changes", Check.look(x), before);
    }

    private static void keepNothingThere() {
        check.sentence("48: a mill without CLOTHS is kept, too");
        IntentVats x = new IntentVats();
        x.keep();
        x.cloth(1);
        check.due("again()", x.again(), 0);
        check.due("none", x.of(0, 0), -1);
        check.same("as at first", Check.look(x), Check.look(new IntentVats()));
    }

    private static void keepLatest() {
        check.sentence("49: what was kept latest");
        IntentVats x = Check.told("cloth;");
        x.keep();
        x.cloth(1);
        x.keep();
        x.cloth(2);
        check.due("again()", x.again(), 2);
        check.same("cloths", Check.cloths(x), "0/0/0/0/0 1/0/0/0/0");
    }

    private static IntentVats changed() {
        IntentVats x = Check.told("felt about 1 deep 2; wool hung; light 3; mordant 4; quarrel 5; slip 6; vat 0 of 7; strong 7 8; day 0 vat 5;");
        x.days(4);
        x.dip(1, 2);
        x.seed(-5);
        x.roster(3, -1);
        return x;
    }

    private static void keepAll() {
        check.sentence("48: All but THE TAPE, ROWS, SHEETS, SHELVES, THE TRACE is kept");
        IntentVats x = changed();
        x.keep();
        Check.millOf(x, "shroud about 9 deep 99 hung; shroud about 9; shroud hung; light 9; mordant 9; quarrel 9; slip 99; vat 0 of 9; strong 7 9; day 0 vat 0;");
        for (int i = 0; i < 5; i++) x.day();
        check.due("again()", x.again(), 2);
        check.same("as it was", Check.look(x), Check.look(changed()));
    }

    private static void againNone() {
        check.sentence("49: NONE: nothing is kept");
        check.refusedBy(() -> Check.told("cloth about 3;"), "again()", x -> x.again(), -3);
        check.refusedBy(IntentVats::new, "again()", x -> x.again(), -3);
    }

    private static void againAfterRefusals() {
        check.sentence("49: NONE changes nothing: it may be kept then");
        IntentVats x = Check.told("cloth about 3;");
        x.again();
        x.keep();
        x.steep(0, 4, 5);
        check.due("again()", x.again(), 1);
        check.same("cloth", Check.cloth(x, 0), "0/4/20/0/0");
    }

    private static void againStays() {
        check.sentence("49: (which stays)");
        IntentVats x = Check.told("cloth about 3;");
        x.keep();
        for (int i = 0; i < 3; i++) {
            x.dip(0, 3);
            x.set(0, 9);
            x.fill(3, 0, 9);
            x.roster(0, -1);
            x.seed(i);
            x.days(9);
            check.due("again()", x.again(), 1);
            check.same("as it was", Check.look(x), Check.look(Check.told("cloth about 3;")));
        }
    }

    private static IntentVats other() {
        IntentVats x = Check.told("cloth; felt about 1;");
        x.keep();
        return x;
    }

    private static void againNoTape() {
        check.sentence("48: THE TAPE is not kept");
        IntentVats x = other();
        Check.feedText(x, "wool;");
        x.again();
        check.due("bytes", x.many(5), 5);
        check.due("mill()", x.mill(), 1);
    }

    private static void againNoRows() {
        check.sentence("48: ROWS are not kept");
        IntentVats x = other();
        x.prove(1, 3);
        x.again();
        check.due("rows", x.many(4), 3);
        check.due("right still", x.judge(1), 0);
    }

    private static void againNoSheets() {
        check.sentence("48: SHEETS are not kept");
        IntentVats x = other();
        x.sheet(0, 1, 2);
        x.put(0, 1, 77);
        x.again();
        check.due("item", x.item(0, 1, 1), 77);
    }

    private static void againNoShelves() {
        check.sentence("48: SHELVES are not kept");
        IntentVats x = other();
        x.sheet(0, 1, 2);
        x.shelf(0, 1, 0);
        x.shelf(1, 0, 1);
        x.again();
        check.due("row", x.taken(0, 11), 2);
        check.due("felt", x.taken(1, 3), 1);
    }

    private static void againNoTrace() {
        check.sentence("48: THE TRACE is not kept");
        IntentVats x = other();
        x.shelf(1, 0, 1);
        x.act(1, 0, 1);
        x.again();
        check.same("trace", Check.trace(x), "51 10");
    }

    private static void againZ() {
        check.sentence("48: z is kept");
        IntentVats x = new IntentVats();
        x.seed(LEAST);
        x.keep();
        x.seed(8);
        x.again();
        check.due("z", x.seed(0), LEAST);
    }

    private static void againFullThenRoom() {
        check.sentence("10: FULL no more, when there are fewer again");
        IntentVats x = Check.told("cloth;");
        x.keep();
        for (int i = 1; i < 8; i++) x.cloth(2);
        check.due("full", x.cloth(2), -2);
        check.due("again()", x.again(), 1);
        check.due("room", x.cloth(5), 1);
        check.same("new", Check.cloth(x, 1), "5/0/0/0/0");
    }
}
