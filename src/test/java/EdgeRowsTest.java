/** The boundaries of promises 35 to 38, a method for each sentence: rows of days and their reader. */
public final class EdgeRowsTest {
    private static final Check check = new Check();
    private static final int MOST = Integer.MAX_VALUE;
    private static final int LEAST = Integer.MIN_VALUE;
    private static final int[] NO_CLOTHS = {-1, 4, 8, MOST, LEAST};

    public static void main(String[] args) {
        proveRange();
        proveOutside();
        proveAnew();
        proveTried();
        rowsStay();
        rowOutside();
        rowNone();
        alterAnyInt();
        alterOutside();
        judgeNone();
        judgeRight();
        judgeFirst();
        judgeLast();
        judgeEachPart();
        judgeAboutNothing();
        judgeFromNow();
        judgeOutside();
        check.end();
    }

    private static void proveRange() {
        check.sentence("35: ROWS by n DAYS (1 to 10): how many");
        IntentVats x = Check.told("cloth; felt about 9 deep 7 hung;");
        check.due("prove(0, 1)", x.prove(0, 1), 1);
        check.same("one", Check.rows(x), "1/8/15");
        check.due("prove(0, 10)", x.prove(0, 10), 10);
        check.due("many(4)", x.many(4), 10);
        check.due("the seventh", x.row(6, 1), 6);
        check.due("the tenth", x.row(9, 1), x.depth(0, 10));
        check.due("the tenth", x.row(9, 0), x.gone(0, 10));
        check.due("the tenth", x.row(9, 2), x.depth(0, 10) + 7);
    }

    private static void proveOutside() {
        check.sentence("35: BAD, no such one, n below 1, above 10");
        for (int c : NO_CLOTHS) check.bad("prove(" + c + ", 2)", x -> x.prove(c, 2));
        for (int n : new int[] {0, -1, 11, MOST, LEAST}) check.bad("prove(0, " + n + ")", x -> x.prove(0, n));
    }

    private static void proveAnew() {
        check.sentence("35: ROWS are those of the latest");
        IntentVats x = Check.told("cloth; felt about 9 deep 7 hung;");
        x.prove(0, 10);
        x.prove(1, 2);
        check.due("many(4)", x.many(4), 2);
        check.same("rows", Check.rows(x), "10/7/15 10/7/9");
        check.due("row(2, 0)", x.row(2, 0), -9);
    }

    private static void proveTried() {
        check.sentence("ROWS: tried");
        IntentVats x = Check.told("cloth; felt about 9 deep 7 hung;");
        x.prove(0, 10);
        check.same("cloths", Check.cloths(x), "0/0/0/0/0 3/10/7/1/0");
        check.due("day", x.state(0), 0);
        check.due("vat", x.vatOf(0, 1), 5);
    }

    private static void rowsStay() {
        check.sentence("ROWS stay as they are, whatever comes to the mill");
        IntentVats x = Check.told("cloth;");
        x.keep();
        x.prove(0, 3);
        String rows = Check.rows(x);
        x.days(5);
        x.cloth(3);
        x.mind(0, 4);
        x.again();
        check.same("rows", Check.rows(x), rows);
    }

    private static void rowOutside() {
        check.sentence("36: -9: there is none such, another what");
        for (int i : new int[] {-1, 4, 9, 10, MOST, LEAST}) check.refused("row(" + i + ", 0)", x -> x.row(i, 0), -9);
        for (int what : new int[] {-1, 3, MOST, LEAST}) check.refused("row(0, " + what + ")", x -> x.row(0, what), -9);
    }

    private static void rowNone() {
        check.sentence("36, 37: -9: there are no ROWS");
        check.refusedBy(IntentVats::new, "row(0, 0)", x -> x.row(0, 0), -9);
        check.refusedBy(IntentVats::new, "alterRow(0, 0, 1)", x -> x.alterRow(0, 0, 1), -9);
    }

    private static void alterAnyInt() {
        check.sentence("37: It becomes v: what it was.");
        IntentVats x = Check.told("cloth;");
        x.prove(0, 2);
        check.due("most", x.alterRow(0, 0, MOST), 1);
        check.due("least", x.alterRow(0, 0, LEAST), MOST);
        check.due("-9, no refusal", x.alterRow(0, 0, -9), LEAST);
        check.due("as it was", x.row(0, 0), -9);
        check.same("the others", Check.rows(x), "-9/8/8 1/2/2");
    }

    private static void alterOutside() {
        check.sentence("37: -9 likewise");
        for (int i : new int[] {-1, 4, 9, 10, MOST, LEAST}) check.refused("alterRow(" + i + ", 0, 7)", x -> x.alterRow(i, 0, 7), -9);
        for (int what : new int[] {-1, 3, MOST, LEAST}) check.refused("alterRow(1, " + what + ", 7)", x -> x.alterRow(1, what, 7), -9);
    }

    private static void judgeNone() {
        check.sentence("38: 0 all is right (also if there are none)");
        check.due("none", Check.told("cloth;").judge(0), 0);
    }

    private static void judgeRight() {
        check.sentence("38: 0 all is right");
        IntentVats x = Check.told("cloth; wool about 3; shroud hung;");
        for (int n = 1; n <= 10; n++) {
            for (int c = 0; c < 3; c++) {
                x.prove(c, n);
                check.due("judge(" + c + ")", x.judge(c), 0);
            }
        }
    }

    private static void judgeFirst() {
        check.sentence("38: the first ROW that isn't, and 1 more");
        IntentVats x = Check.told("cloth;");
        x.prove(0, 10);
        x.alterRow(9, 0, 99);
        check.due("the last", x.judge(0), 10);
        x.alterRow(4, 1, 99);
        check.due("the fifth", x.judge(0), 5);
        x.alterRow(0, 2, 99);
        check.due("the first", x.judge(0), 1);
    }

    private static void judgeLast() {
        check.sentence("38: the only ROW");
        IntentVats x = Check.told("cloth;");
        x.prove(0, 1);
        x.alterRow(0, 1, 9);
        check.due("judge(0)", x.judge(0), 1);
        x.alterRow(0, 1, 8);
        check.due("judge(0)", x.judge(0), 0);
    }

    private static void judgeEachPart() {
        check.sentence("right is one that is as it must be: each of the three numbers");
        IntentVats x = Check.told("cloth;");
        x.prove(0, 3);
        for (int what = 0; what < 3; what++) {
            int was = x.alterRow(1, what, -1);
            check.due("what " + what, x.judge(0), 2);
            x.alterRow(1, what, was);
        }
        check.due("right again", x.judge(0), 0);
    }

    private static void judgeAboutNothing() {
        check.sentence("ROWS: (1 and what it is ABOUT ..): 0 of nothing");
        IntentVats x = Check.told("cloth hung;");
        x.prove(0, 2);
        check.same("rows", Check.rows(x), "0/0/0 0/0/0");
        check.due("right", x.judge(0), 0);
        x.alterRow(1, 0, 1);
        check.due("purpose 0 is not nothing", x.judge(0), 2);
    }

    private static void judgeFromNow() {
        check.sentence("THE READER takes ROWS as those of one, from how it is now");
        IntentVats x = Check.told("cloth; wool;");
        x.prove(0, 3);
        check.due("of another", x.judge(1), 1);
        x.days(1);
        check.due("a day later", x.judge(0), 1);
    }

    private static void judgeOutside() {
        check.sentence("38: BAD, no such one");
        for (int c : NO_CLOTHS) check.bad("judge(" + c + ")", x -> x.judge(c));
        check.refusedBy(IntentVats::new, "judge(0), without ROWS", x -> x.judge(0), -1);
    }
}
