/** The boundaries of promises 43 to 46, a method for each sentence: shelves, acts, the trace. */
public final class EdgeShelfTest {
    private static final Check check = new Check();
    private static final int MOST = Integer.MAX_VALUE;
    private static final int LEAST = Integer.MIN_VALUE;
    private static final int[] NO_SHELVES = {-1, 4, MOST, LEAST};

    public static void main(String[] args) {
        nothingAtFirst();
        shelfRange();
        shelfMissing();
        shelfNothing();
        shelfRowStays();
        shelfOutside();
        shelfNoThing();
        takenKinds();
        takenRows();
        takenEmptyRow();
        takenNothing();
        takenNoSuchOneAtTheTime();
        takenOutside();
        takenFirstNamed();
        actRange();
        actOutside();
        actNothing();
        actRow();
        actNoSuchOneAtTheTime();
        actWraps();
        actParted();
        actPartedInside();
        actAfterAPartedOne();
        actCutTowards0();
        actOfNothing();
        actChangesNothing();
        actPartedChangesNothing();
        traceAtFirst();
        traceRange();
        traceOfTheLatest();
        traceOfAPartedOne();
        traceLongest();
        bodiesOfEachKind();
        check.end();
    }

    private static void nothingAtFirst() {
        check.sentence("SHELVES 0 to 3 hold nothing (at first)");
        for (int s = 0; s < 4; s++) {
            int shelf = s;
            check.refusedBy(IntentVats::new, "taken(" + s + ", 0)", x -> x.taken(shelf, 0), -11);
            check.refusedBy(IntentVats::new, "taken(" + s + ", 10)", x -> x.taken(shelf, 10), -11);
        }
    }

    private static void shelfRange() {
        check.sentence("43: a SHELF holds one of the CLOTHS, the row of SHEET n");
        IntentVats x = Check.told("cloth;cloth;cloth;cloth;cloth;cloth;cloth;cloth;");
        x.sheet(0, 0, 4);
        x.sheet(3, 0, 5);
        check.due("the first cloth", x.shelf(0, 0, 0), 1);
        check.due("the last cloth", x.shelf(3, 0, 7), 1);
        check.due("the first sheet", x.shelf(1, 1, 0), 1);
        check.due("the last sheet", x.shelf(2, 1, 3), 1);
        check.due("cloth", x.taken(0, 0), 0);
        check.due("cloth", x.taken(3, 0), 7);
        check.due("row", x.taken(1, 10), 4);
        check.due("row", x.taken(2, 10), 5);
    }

    private static void shelfMissing() {
        check.sentence("43: (1; nothing, if missing)");
        IntentVats x = Check.told("cloth;");
        x.shelf(1, 0, 0);
        check.due("shelf(1, 1, 2)", x.shelf(1, 1, 2), 1);
        check.due("nothing", x.taken(1, 0), -11);
        x.sheet(2, 0, 3);
        check.due("nothing still", x.taken(1, 10), -11);
    }

    private static void shelfNothing() {
        check.sentence("43: nothing (2): 1, whatever n is");
        for (int n : new int[] {0, -1, 8, MOST, LEAST}) {
            IntentVats x = Check.told("cloth;");
            x.sheet(0, 0, 1);
            x.shelf(0, 0, 0);
            x.shelf(1, 1, 0);
            check.due("shelf(0, 2, " + n + ")", x.shelf(0, 2, n), 1);
            check.due("shelf(1, 2, " + n + ")", x.shelf(1, 2, n), 1);
            check.due("nothing", x.taken(0, 0), -11);
            check.due("nothing", x.taken(1, 10), -11);
        }
    }

    private static void shelfRowStays() {
        check.sentence("SHELVES hold a SHEET's row, that of then");
        IntentVats x = new IntentVats();
        x.sheet(0, 1, 3);
        x.shelf(0, 1, 0);
        x.sheet(0, 2, 9);
        check.due("shorts", x.taken(0, 11), 3);
        x.sheet(0, -1, 0);
        check.due("shorts", x.taken(0, 11), 3);
    }

    private static void shelfOutside() {
        check.sentence("43: BAD: no such SHELF, what");
        for (int s : NO_SHELVES) {
            for (int what = 0; what < 3; what++) {
                int w = what;
                check.bad("shelf(" + s + ", " + w + ", 0)", x -> x.shelf(s, w, 0));
            }
        }
        for (int what : new int[] {-1, 3, MOST, LEAST}) check.bad("shelf(0, " + what + ", 0)", x -> x.shelf(0, what, 0));
    }

    private static void shelfNoThing() {
        check.sentence("43: BAD: no such thing");
        for (int n : new int[] {-1, 4, 8, MOST, LEAST}) check.bad("shelf(0, 0, " + n + ")", x -> x.shelf(0, 0, n));
        for (int n : new int[] {-1, 4, MOST, LEAST}) check.bad("shelf(0, 1, " + n + ")", x -> x.shelf(0, 1, n));
    }

    private static void takenKinds() {
        check.sentence("44: taken for a thing of KIND as (0 to 5, or one under it)");
        String[] under = {"100000", "110000", "101000", "110100", "101010", "100001"};
        IntentVats x = Check.told("cloth;wool;linen;felt;shroud;muslin;");
        for (int kind = 0; kind < 6; kind++) {
            x.shelf(2, 0, kind);
            for (int as = 0; as < 6; as++) {
                check.due(kind + " as " + as, x.taken(2, as), under[kind].charAt(as) == '1' ? kind : -13);
            }
        }
    }

    private static void takenRows() {
        check.sentence("44: for a row of sort as - 10 (as 10 to 13): how many items");
        IntentVats x = Check.told("cloth;");
        for (int s = 0; s < 4; s++) {
            x.sheet(s, s, 40 - s);
            x.shelf(s, 1, s);
        }
        for (int s = 0; s < 4; s++) {
            for (int as = 10; as < 14; as++) check.due("row " + s + " as " + as, x.taken(s, as), as == s + 10 ? 40 - s : -13);
            for (int as = 0; as < 6; as++) check.due("row " + s + " as a thing", x.taken(s, as), -13);
        }
        x.shelf(0, 0, 0);
        for (int as = 10; as < 14; as++) check.due("a thing as a row", x.taken(0, as), -13);
    }

    private static void takenEmptyRow() {
        check.sentence("44: a row of none");
        IntentVats x = new IntentVats();
        x.sheet(0, 3, 0);
        x.shelf(0, 1, 0);
        check.due("none", x.taken(0, 13), 0);
        check.due("another sort", x.taken(0, 12), -13);
    }

    private static void takenNothing() {
        check.sentence("44: -11: nothing");
        for (int as : new int[] {0, 1, 2, 3, 4, 5, 10, 11, 12, 13}) check.refused("taken(3, " + as + ")", x -> x.taken(3, as), -11);
    }

    /** Two cloths, of which the second is held; what was kept has one. */
    private static IntentVats lost() {
        IntentVats x = Check.told("felt;");
        x.keep();
        x.cloth(1);
        x.shelf(0, 0, 1);
        x.act(0, 0, 1);
        x.again();
        return x;
    }

    private static void takenNoSuchOneAtTheTime() {
        check.sentence("SHELVES: nothing, if there is no such one at the time");
        check.refusedBy(EdgeShelfTest::lost, "taken(0, 0)", x -> x.taken(0, 0), -11);
        check.refusedBy(EdgeShelfTest::lost, "taken(0, 10)", x -> x.taken(0, 10), -11);
        IntentVats x = lost();
        x.cloth(4);
        check.due("by its number", x.taken(0, 4), 1);
        check.due("another now", x.taken(0, 1), -13);
    }

    private static void takenOutside() {
        check.sentence("44: BAD: no such SHELF, as");
        for (int s : NO_SHELVES) check.bad("taken(" + s + ", 0)", x -> x.taken(s, 0));
        for (int as : new int[] {-1, 6, 9, 14, MOST, LEAST}) {
            for (int s = 0; s < 4; s++) {
                int shelf = s;
                check.bad("taken(" + s + ", " + as + ")", x -> x.taken(shelf, as));
            }
        }
    }

    private static void takenFirstNamed() {
        check.sentence("of several the first named: BAD, -11, -13 (taken)");
        check.bad("no such as, nothing", x -> x.taken(3, 6));
        check.bad("no such as, a row", x -> x.taken(1, 9));
        check.refusedBy(EdgeShelfTest::lost, "nothing, another kind", x -> x.taken(0, 5), -11);
    }

    private static void actRange() {
        check.sentence("45: An ACT (0 to 3)");
        IntentVats x = Check.told("cloth about 3;");
        x.shelf(3, 0, 0);
        int[] due = {50, 86, 2, 86 ^ 240};
        for (int act = 0; act < 4; act++) check.due("act(3, " + act + ", 10)", x.act(3, act, 10), due[act]);
    }

    private static void noTrace(String call, java.util.function.ToLongFunction<IntentVats> asked) {
        IntentVats x = Check.busy();
        check.due("there was a trace", x.many(6) > 0 ? 1 : 0, 1);
        check.due(call, asked.applyAsLong(x), 0);
        check.due("many(6) after " + call, x.many(6), 0);
        check.due("trace(0) after " + call, x.trace(0), -3);
    }

    private static void actOutside() {
        check.sentence("45: 0, and no TRACE then: no such SHELF, act");
        for (int s : NO_SHELVES) noTrace("act(" + s + ", 0, 5)", x -> x.act(s, 0, 5));
        for (int a : new int[] {-1, 4, MOST, LEAST}) noTrace("act(0, " + a + ", 5)", x -> x.act(0, a, 5));
    }

    private static void actNothing() {
        check.sentence("45: 0, and no TRACE then: nothing");
        for (int act = 0; act < 4; act++) {
            int a = act;
            noTrace("act(3, " + a + ", 5)", x -> x.act(3, a, 5));
        }
    }

    private static void actRow() {
        check.sentence("45: 0, and no TRACE then: a row");
        for (int act = 0; act < 4; act++) {
            int a = act;
            noTrace("act(1, " + a + ", 5)", x -> x.act(1, a, 5));
        }
    }

    private static void actNoSuchOneAtTheTime() {
        check.sentence("45: 0, and no TRACE then: no such one at the time");
        IntentVats x = lost();
        check.due("the trace of then", x.many(6), 1);
        check.due("act(0, 0, 5)", x.act(0, 0, 5), 0);
        check.due("no TRACE", x.many(6), 0);
    }

    private static int done(String text, int number, int act, int in) {
        IntentVats x = Check.told(text);
        x.shelf(0, 0, number);
        return x.act(0, act, in);
    }

    private static void actWraps() {
        check.sentence("ACTS of things, with a number x (ints that wrap)");
        check.due("rubs", done("cloth;", 0, 0, MOST), MOST - 4);
        check.due("rubs", done("cloth;", 0, 0, LEAST), LEAST);
        check.due("rubs", done("cloth;cloth;", 1, 0, MOST), MOST - 3);
        check.due("linen rubs", done("linen;", 0, 0, MOST), -10);
        check.due("shroud rubs", done("shroud;", 0, 0, MOST), 10);
        check.due("shroud rubs", done("shroud;cloth;", 0, 0, LEAST), 0);
        check.due("felt rubs", done("felt;", 0, 0, LEAST), MOST - 1);
        check.due("wool steeps", done("wool;", 0, 1, LEAST), MOST - 5);
        check.due("felt parts", done("felt about 0;", 0, 2, MOST), LEAST + 3);
        check.due("muslin dries", done("muslin;", 0, 3, LEAST), (LEAST ^ 240) * 3);
        check.due("by -1", done("cloth;cloth;", 1, 2, LEAST), LEAST);
        check.due("muslin parts", done("muslin about 0;", 0, 2, LEAST), LEAST);
        check.due("muslin parts", done("muslin;muslin;", 1, 2, LEAST), LEAST - 6);
    }

    private static void actParted() {
        check.sentence("12 parts: (-15 if these are the same; that is all that act() answers then)");
        check.due("0 and 0", done("cloth;", 0, 2, 5), -15);
        check.due("3 and 3", done("cloth;cloth;cloth;cloth about 2;", 3, 2, 5), -15);
        check.due("of 0", done("cloth;", 0, 2, 0), -15);
        check.due("1 and 0", done("cloth about 0;", 0, 2, 5), 5);
        check.due("-15, not parted by 0", done("cloth about 0;", 0, 2, -15), -15);
    }

    private static void actPartedInside() {
        check.sentence("12 parts: that is all that act() answers then, also of bodies that go on with it");
        check.due("felt parts", done("felt;", 0, 2, 5), -15);
        check.due("felt parts", done("cloth;felt about 0;", 1, 2, 5), -15);
        check.due("muslin parts", done("muslin;", 0, 2, 5), -15);
        check.due("linen dries", done("linen;", 0, 3, 5), -15);
        check.due("shroud dries", done("shroud;", 0, 3, 5), -15);
        check.due("wool dries without", done("wool;", 0, 3, 5), 19 ^ 240);
        check.due("muslin dries without", done("muslin;", 0, 3, 5), (25 ^ 240) * 3);
    }

    private static void actCutTowards0() {
        check.sentence("Quotients are cut towards 0.");
        check.due("-7 by 2", done("cloth about 1;", 0, 2, -7), -3);
        check.due("7 by 2", done("cloth about 1;", 0, 2, 7), 3);
        check.due("7 by -2", done("cloth;cloth;cloth;", 2, 2, 7), -3);
        check.due("-7 by -2", done("cloth;cloth;cloth;", 2, 2, -7), 3);
        check.due("1 by 10", done("cloth about 9;", 0, 2, 1), 0);
        check.due("-1 by 10", done("cloth about 9;", 0, 2, -1), 0);
    }

    private static void actOfNothing() {
        check.sentence("a: 1 and what it is ABOUT (0: nothing)");
        check.due("steeps of nothing", done("cloth;", 0, 1, 2), 10);
        check.due("steeps of 0", done("cloth about 0;", 0, 1, 2), 19);
        check.due("steeps of 9", done("cloth about 9;", 0, 1, 2), 100);
    }

    private static void actChangesNothing() {
        check.sentence("ACTS change nothing but THE TRACE");
        IntentVats one = Check.busy();
        IntentVats other = Check.busy();
        for (int act = 0; act < 4; act++) one.act(2, act, 5);
        one.act(0, 3, 7);
        check.same("seen", Check.look(one), Check.look(other));
    }

    private static void actPartedChangesNothing() {
        check.sentence("such a call changes nothing: -15, THE TRACE is of the latest act()");
        IntentVats one = Check.busy();
        IntentVats other = Check.busy();
        one.steep(1, 0, 5);
        other.steep(1, 0, 5);
        check.due("parted", one.act(0, 2, 5), -15);
        check.same("trace", Check.trace(one), "12");
        one.act(2, 0, 5);
        other.act(2, 0, 5);
        check.same("seen", Check.look(one), Check.look(other));
    }

    private static void traceAtFirst() {
        check.sentence("46: NONE, before any act()");
        check.refusedBy(IntentVats::new, "trace(0)", x -> x.trace(0), -3);
    }

    private static void traceRange() {
        check.sentence("46: THE TRACE's i-th body. NONE.");
        IntentVats x = Check.told("linen;");
        x.shelf(0, 0, 0);
        x.act(0, 0, 1);
        check.due("the first", x.trace(0), 30);
        check.due("the last", x.trace(1), 10);
        for (int i : new int[] {-1, 2, 29, 30, MOST, LEAST}) check.due("trace(" + i + ")", x.trace(i), -3);
        check.refused("trace(-1)", y -> y.trace(-1), -3);
        check.refused("trace(30)", y -> y.trace(30), -3);
    }

    private static void traceOfTheLatest() {
        check.sentence("THE TRACE: of the bodies that ran in the latest act()");
        IntentVats x = Check.told("linen about 3;");
        x.shelf(0, 0, 0);
        x.act(0, 3, 1);
        check.same("six", Check.trace(x), "31 13 11 30 10 12");
        x.act(0, 2, 1);
        check.same("one", Check.trace(x), "12");
        check.due("behind it", x.trace(1), -3);
    }

    private static void traceOfAPartedOne() {
        check.sentence("THE TRACE: as they began, also of one parted by 0");
        IntentVats x = Check.told("muslin;");
        x.shelf(0, 0, 0);
        check.due("parts", x.act(0, 2, 1), -15);
        check.same("rubs did not begin", Check.trace(x), "61 12");
    }

    private static void traceLongest() {
        check.sentence("THE TRACE: (left first); the longest there is");
        IntentVats x = Check.told("shroud about 3;");
        x.shelf(0, 0, 0);
        x.act(0, 3, 1);
        check.same("eleven", Check.trace(x), "31 13 41 11 40 30 10 40 30 10 12");
        check.due("many(6)", x.many(6), 11);
    }

    private static void bodies(String text, String rubs, String steeps, String parts, String dries) {
        IntentVats x = Check.told(text);
        x.shelf(0, 0, 0);
        String[] due = {rubs, steeps, parts, dries};
        for (int act = 0; act < 4; act++) {
            x.act(0, act, 1);
            check.same("trace of act " + act + " of " + text, Check.trace(x), due[act]);
        }
    }

    private static void bodiesOfEachKind() {
        check.sentence("BODIES: that of the KIND itself, else of the one above it");
        bodies("cloth about 3;", "10", "11 10", "12", "13 11 10");
        bodies("wool about 3;", "10", "20 11 10", "12", "13 20 11 10");
        bodies("linen about 3;", "30 10", "11 30 10", "12", "31 13 11 30 10 12");
        bodies("felt about 3;", "51 10", "20 11 51 10", "50 12", "13 20 11 51 10");
        bodies("shroud about 3;", "40 30 10", "41 11 40 30 10 40 30 10", "12", "31 13 41 11 40 30 10 40 30 10 12");
        bodies("muslin about 3;", "10", "11 10", "61 12 10", "60 13 11 10");
    }

    private static void actAfterAPartedOne() {
        check.sentence("45: an ACT after one that was parted by 0");
        IntentVats x = Check.told("muslin;");
        x.shelf(0, 0, 0);
        check.due("parts", x.act(0, 2, 1), -15);
        check.due("rubs", x.act(0, 0, 1), 5);
        check.same("trace", Check.trace(x), "10");
    }
}
