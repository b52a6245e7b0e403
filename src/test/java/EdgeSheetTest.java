/** The boundaries of promises 39 to 42, a method for each sentence: sheets, and depths taken from them. */
public final class EdgeSheetTest {
    private static final Check check = new Check();
    private static final int MOST = Integer.MAX_VALUE;
    private static final int LEAST = Integer.MIN_VALUE;
    private static final int[] NO_SHEETS = {-1, 4, MOST, LEAST};

    public static void main(String[] args) {
        missingAtFirst();
        sheetRange();
        sheetEmpty();
        sheetFull();
        sheetAllZero();
        sheetMissing();
        sheetOutside();
        sheetSizeBelow0();
        sheetBadFirst();
        putPlaces();
        putNarrowsBytes();
        putNarrowsShorts();
        putInts();
        putLongs();
        putOutside();
        putMissing();
        putPlaceOutside();
        putEmpty();
        putFirstNamed();
        itemOutside();
        itemMissing();
        itemOtherSort();
        itemPlaceOutside();
        itemFirstNamed();
        itemAsLowAsRefusals();
        mindsRange();
        mindsHeld();
        mindsTo0();
        mindsNothingStays();
        mindsBytesAlone();
        mindsOutside();
        mindsBeyondTheLast();
        mindsMissing();
        mindsOtherSort();
        mindsPlaceOutside();
        mindsNotSoMany();
        mindsFirstNamed();
        check.end();
    }

    private static void missingAtFirst() {
        check.sentence("SHEETS 0 to 3: missing (at first)");
        for (int s = 0; s < 4; s++) {
            int sheet = s;
            check.refusedBy(IntentVats::new, "item(" + s + ", 0, 0)", x -> x.item(sheet, 0, 0), -11);
        }
    }

    private static void sheetRange() {
        check.sentence("40: bytes (sort 0), shorts (1), ints (2), longs (3)");
        IntentVats x = new IntentVats();
        for (int s = 0; s < 4; s++) check.due("sheet", x.sheet(s, 3 - s, 1), 1);
        for (int s = 0; s < 4; s++) {
            for (int sort = 0; sort < 4; sort++) check.due("item(" + s + ", " + sort + ", 0)", x.item(s, sort, 0), sort == 3 - s ? 0 : -13);
        }
    }

    private static void sheetEmpty() {
        check.sentence("40: a row of n: none");
        IntentVats x = new IntentVats();
        check.due("sheet(0, 2, 0)", x.sheet(0, 2, 0), 1);
        check.due("not missing", x.item(0, 2, 0), -12);
    }

    private static void sheetFull() {
        check.sentence("SHEETS: 40 at most");
        IntentVats x = new IntentVats();
        check.due("sheet(3, 0, 40)", x.sheet(3, 0, 40), 1);
        check.due("the last", x.put(3, 39, 5), 1);
        check.due("the last", x.item(3, 0, 39), 5);
        check.due("behind it", x.item(3, 0, 40), -12);
    }

    private static void sheetAllZero() {
        check.sentence("40: all 0");
        IntentVats x = new IntentVats();
        x.sheet(1, 1, 5);
        for (int i = 0; i < 5; i++) x.put(1, i, 9);
        check.due("the same anew", x.sheet(1, 1, 5), 1);
        for (int i = 0; i < 5; i++) check.due("item", x.item(1, 1, i), 0);
    }

    private static void sheetMissing() {
        check.sentence("40: or missing (sort -1; n counts nothing then)");
        for (int n : new int[] {0, 1, -1, 41, MOST, LEAST}) {
            IntentVats x = new IntentVats();
            x.sheet(2, 1, 3);
            check.due("sheet(2, -1, " + n + ")", x.sheet(2, -1, n), 1);
            check.due("missing", x.item(2, 1, 0), -11);
            check.due("missing already", x.sheet(2, -1, n), 1);
        }
    }

    private static void sheetOutside() {
        check.sentence("40: BAD: no such SHEET, sort, n above 40");
        for (int s : NO_SHEETS) {
            check.bad("sheet(" + s + ", 0, 1)", x -> x.sheet(s, 0, 1));
            check.bad("sheet(" + s + ", -1, 0)", x -> x.sheet(s, -1, 0));
        }
        for (int sort : new int[] {-2, 4, MOST, LEAST}) check.bad("sheet(0, " + sort + ", 1)", x -> x.sheet(0, sort, 1));
        for (int n : new int[] {41, MOST}) {
            for (int sort = 0; sort < 4; sort++) {
                int of = sort;
                check.bad("sheet(0, " + of + ", " + n + ")", x -> x.sheet(0, of, n));
            }
        }
    }

    private static void sheetSizeBelow0() {
        check.sentence("40: -14: a size below 0");
        for (int n : new int[] {-1, LEAST}) {
            for (int s = 0; s < 4; s++) {
                int sheet = s;
                check.refused("sheet(" + s + ", 1, " + n + ")", x -> x.sheet(sheet, 1, n), -14);
            }
        }
    }

    private static void sheetBadFirst() {
        check.sentence("of several the first named: BAD, -14 (sheet)");
        check.bad("no such SHEET", x -> x.sheet(4, 1, -1));
        check.bad("no such sort", x -> x.sheet(0, 4, -1));
        check.bad("no such sort", x -> x.sheet(0, -2, -1));
    }

    private static void putPlaces() {
        check.sentence("41: Item i becomes v");
        IntentVats x = new IntentVats();
        x.sheet(0, 2, 3);
        check.due("the first", x.put(0, 0, 7), 1);
        check.due("the last", x.put(0, 2, 9), 1);
        for (int i = 0; i < 3; i++) check.due("item " + i, x.item(0, 2, i), i == 0 ? 7 : i == 2 ? 9 : 0);
    }

    private static void narrowed(int sort, int v, int due) {
        IntentVats x = new IntentVats();
        x.sheet(0, sort, 1);
        check.due("put " + v, x.put(0, 0, v), 1);
        check.due("item of " + v, x.item(0, sort, 0), due);
    }

    private static void putNarrowsBytes() {
        check.sentence("41: narrowed to its sort: bytes");
        narrowed(0, 127, 127);
        narrowed(0, 128, -128);
        narrowed(0, 255, -1);
        narrowed(0, 256, 0);
        narrowed(0, -128, -128);
        narrowed(0, -129, 127);
        narrowed(0, MOST, -1);
        narrowed(0, LEAST, 0);
    }

    private static void putNarrowsShorts() {
        check.sentence("41: narrowed to its sort: shorts");
        narrowed(1, 32767, 32767);
        narrowed(1, 32768, -32768);
        narrowed(1, 65535, -1);
        narrowed(1, 65536, 0);
        narrowed(1, -32769, 32767);
        narrowed(1, MOST, -1);
        narrowed(1, LEAST, 0);
    }

    private static void putInts() {
        check.sentence("41: ints as they are");
        for (int v : new int[] {0, -1, 65536, MOST, LEAST}) narrowed(2, v, v);
    }

    private static void putLongs() {
        check.sentence("42: (of longs the lowest 32 bits)");
        for (int v : new int[] {0, -1, 65536, MOST, LEAST}) narrowed(3, v, v);
    }

    private static void putOutside() {
        check.sentence("41: BAD: no such SHEET");
        for (int s : NO_SHEETS) check.bad("put(" + s + ", 0, 1)", x -> x.put(s, 0, 1));
    }

    private static void putMissing() {
        check.sentence("41: -11: it is missing");
        check.refused("put(3, 0, 1)", x -> x.put(3, 0, 1), -11);
    }

    private static void putPlaceOutside() {
        check.sentence("41: -12: a place outside");
        for (int i : new int[] {-1, 3, 40, MOST, LEAST}) check.refused("put(0, " + i + ", 1)", x -> x.put(0, i, 1), -12);
    }

    private static void putEmpty() {
        check.sentence("41: -12: of a row of none");
        IntentVats x = new IntentVats();
        x.sheet(0, 0, 0);
        check.due("put(0, 0, 1)", x.put(0, 0, 1), -12);
        check.due("put(0, -1, 1)", x.put(0, -1, 1), -12);
    }

    private static void putFirstNamed() {
        check.sentence("of several the first named: BAD, -11, -12 (put)");
        check.bad("no such SHEET, place", x -> x.put(4, -1, 1));
        check.refused("missing, no such place", x -> x.put(3, -1, 1), -11);
    }

    private static void itemOutside() {
        check.sentence("42: BAD: no such SHEET, sort");
        for (int s : NO_SHEETS) check.bad("item(" + s + ", 0, 0)", x -> x.item(s, 0, 0));
        for (int sort : new int[] {-1, 4, MOST, LEAST}) check.bad("item(0, " + sort + ", 0)", x -> x.item(0, sort, 0));
    }

    private static void itemMissing() {
        check.sentence("42: -11: it is missing");
        for (int sort = 0; sort < 4; sort++) {
            int as = sort;
            check.refused("item(3, " + as + ", 0)", x -> x.item(3, as, 0), -11);
        }
    }

    private static void itemOtherSort() {
        check.sentence("42: -13: taken for another sort");
        for (int sort = 1; sort < 4; sort++) {
            int as = sort;
            check.refused("item(0, " + as + ", 0)", x -> x.item(0, as, 0), -13);
        }
        check.refused("longs for ints", x -> x.item(2, 2, 0), -13);
        check.refused("longs for bytes", x -> x.item(2, 0, 0), -13);
    }

    private static void itemPlaceOutside() {
        check.sentence("42: -12: a place outside");
        for (int i : new int[] {-1, 3, 40, MOST, LEAST}) check.refused("item(0, 0, " + i + ")", x -> x.item(0, 0, i), -12);
    }

    private static void itemFirstNamed() {
        check.sentence("of several the first named: BAD, -11, -13, -12 (item)");
        check.bad("no such SHEET, place", x -> x.item(4, 0, -1));
        check.bad("no such sort, missing", x -> x.item(3, 4, 0));
        check.bad("no such sort, place", x -> x.item(0, 4, -1));
        check.refused("missing, no such place", x -> x.item(3, 0, -1), -11);
        check.refused("another sort, no such place", x -> x.item(0, 1, 3), -13);
    }

    private static void itemAsLowAsRefusals() {
        check.sentence("42: (An item may be as low as these, too.)");
        IntentVats x = new IntentVats();
        x.sheet(0, 0, 1);
        for (int v : new int[] {-1, -11, -12, -13}) {
            check.due("put", x.put(0, 0, v), 1);
            check.due("item", x.item(0, 0, 0), v);
        }
    }

    private static IntentVats bytes(String text, int... numbers) {
        IntentVats x = Check.told(text);
        x.sheet(0, 0, numbers.length);
        for (int i = 0; i < numbers.length; i++) x.put(0, i, numbers[i]);
        return x;
    }

    private static void mindsRange() {
        check.sentence("39: n numbers (0 to 8), from i on, CLOTHS from one on");
        IntentVats x = bytes("felt about 0;felt about 1;felt about 2;felt about 3;felt about 4;felt about 5;felt;", 1, 2, 3, 4, 5, 6, 7, 8, 9);
        x.cloth(0);
        x.steep(6, 6, 1);
        x.steep(7, 7, 1);
        String before = Check.cloths(x);
        check.due("none", x.minds(0, 0, 0, 0), 0);
        check.same("none", Check.cloths(x), before);
        check.due("eight", x.minds(0, 0, 0, 8), 8);
        for (int i = 0; i < 8; i++) check.due("deep", x.of(i, 2), 1 + i);
        check.due("the last eight", x.minds(0, 1, 0, 8), 8);
        for (int i = 0; i < 8; i++) check.due("deep", x.of(i, 2), 2 + i);
        check.due("one of the last", x.minds(0, 0, 7, 1), 1);
        check.due("deep", x.of(7, 2), 1);
        check.due("the other", x.of(6, 2), 8);
    }

    private static void mindsHeld() {
        check.sentence("39: (held to 0 to 99)");
        IntentVats x = bytes("felt about 1;felt about 2;felt about 3;felt about 4;", 98, 99, 100, 127);
        x.minds(0, 0, 0, 4);
        check.same("cloths", Check.cloths(x), "3/2/98/0/0 3/3/99/0/0 3/4/99/0/0 3/5/99/0/0");
    }

    private static void mindsTo0() {
        check.sentence("39: (at 0 it is ABOUT nothing)");
        IntentVats x = bytes("felt about 1;felt about 2;felt about 3;felt about 4 hung;", 1, 0, -1, 128);
        x.minds(0, 0, 0, 4);
        check.same("cloths", Check.cloths(x), "3/2/1/0/0 3/0/0/0/0 3/0/0/0/0 3/0/0/1/0");
    }

    private static void mindsNothingStays() {
        check.sentence("39: (one ABOUT nothing stays so)");
        IntentVats x = bytes("felt;felt hung;felt about 1;", 5, 99, 7);
        check.due("minds", x.minds(0, 0, 0, 3), 3);
        check.same("cloths", Check.cloths(x), "3/0/0/0/0 3/0/0/1/0 3/2/7/0/0");
    }

    private static void mindsBytesAlone() {
        check.sentence("39: a SHEET taken for bytes");
        IntentVats x = bytes("felt about 1;", 200);
        x.minds(0, 0, 0, 1);
        check.same("200 is -56", Check.cloths(x), "3/0/0/0/0");
    }

    private static void mindsOutside() {
        check.sentence("39: BAD: no such SHEET, one, n");
        for (int s : NO_SHEETS) check.bad("minds(" + s + ", 0, 0, 1)", x -> x.minds(s, 0, 0, 1));
        for (int c : new int[] {-1, 4, 8, MOST, LEAST}) {
            check.bad("minds(0, 0, " + c + ", 1)", x -> x.minds(0, 0, c, 1));
            check.bad("minds(0, 0, " + c + ", 0)", x -> x.minds(0, 0, c, 0));
        }
        for (int n : new int[] {-1, 9, MOST, LEAST}) check.bad("minds(0, 0, 0, " + n + ")", x -> x.minds(0, 0, 0, n));
    }

    private static void mindsBeyondTheLast() {
        check.sentence("39: BAD: n goes beyond the last one");
        check.bad("5 of 4", x -> x.minds(2, 0, 0, 5));
        check.bad("2 from the last on", x -> x.minds(0, 0, 3, 2));
        IntentVats x = bytes("felt about 1;felt about 2;felt about 3;", 7, 8, 9);
        check.due("just to the last", x.minds(0, 1, 1, 2), 2);
        check.same("cloths", Check.cloths(x), "3/2/20/0/0 3/3/8/0/0 3/4/9/0/0");
    }

    private static void mindsMissing() {
        check.sentence("39: -11: it is missing");
        check.refused("minds(3, 0, 0, 1)", x -> x.minds(3, 0, 0, 1), -11);
        check.refused("minds(3, 0, 0, 0)", x -> x.minds(3, 0, 0, 0), -11);
    }

    private static void mindsOtherSort() {
        check.sentence("39: -13: it is of another sort");
        check.refused("shorts", x -> x.minds(1, 0, 0, 1), -13);
        check.refused("longs", x -> x.minds(2, 0, 0, 0), -13);
    }

    private static void mindsPlaceOutside() {
        check.sentence("39: -12: i is not 0 to how many items there are (also for n 0)");
        for (int i : new int[] {-1, 4, MOST, LEAST}) {
            check.refused("minds(0, " + i + ", 0, 0)", x -> x.minds(0, i, 0, 0), -12);
            check.refused("minds(0, " + i + ", 0, 1)", x -> x.minds(0, i, 0, 1), -12);
        }
        check.refused("at the end, none", x -> x.minds(0, 3, 0, 0), 0);
        check.due("of a row of none", bytes("felt;").minds(0, 0, 0, 0), 0);
    }

    private static void mindsNotSoMany() {
        check.sentence("39: -12: or there are not so many");
        check.refused("3 and 1", x -> x.minds(0, 3, 0, 1), -12);
        check.refused("2 and 2", x -> x.minds(0, 2, 0, 2), -12);
        check.refused("0 and 4", x -> x.minds(0, 0, 0, 4), -12);
        check.due("just so many", Check.busy().minds(0, 0, 0, 3), 3);
        check.due("just so many", Check.busy().minds(0, 2, 3, 1), 1);
    }

    private static void mindsFirstNamed() {
        check.sentence("of several the first named: BAD, -11, -13, -12 (minds)");
        check.bad("no such SHEET", x -> x.minds(4, -1, 0, 1));
        check.bad("no such one, missing", x -> x.minds(3, -1, 4, 1));
        check.bad("beyond the last, missing", x -> x.minds(3, -1, 3, 2));
        check.bad("no such n, another sort", x -> x.minds(1, -1, 0, 9));
        check.bad("beyond the last, not so many", x -> x.minds(0, 2, 3, 2));
        check.refused("missing, no such place", x -> x.minds(3, -1, 0, 1), -11);
        check.refused("another sort, no such place", x -> x.minds(1, -1, 0, 1), -13);
    }
}
