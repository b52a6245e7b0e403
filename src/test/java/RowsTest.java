/** Promises 35 to 38: rows of days, and the reader. */
public final class RowsTest {
    private static final Check check = new Check();

    public static void main(String[] args) {
        proving();
        altering();
        judging();
        check.end();
    }

    private static void proving() {
        IntentVats x = Check.told("cloth; felt about 9 deep 7 hung;");
        String cloths = Check.cloths(x);
        check.due("prove", x.prove(0, 7), 7);
        check.same("rows", Check.rows(x), "1/8/15 1/2/9 3/5/12 4/3/10 5/6/13 6/3/10 1/6/13");
        check.due("prove", x.prove(1, 2), 2);
        check.same("rows", Check.rows(x), "10/7/15 10/7/9");
        check.due("many", x.many(4), 2);
        check.due("row 2", x.row(2, 0), -9);
        check.due("row -1", x.row(-1, 0), -9);
        check.due("what 3", x.row(0, 3), -9);
        check.due("what -1", x.row(1, -1), -9);
        check.due("prove 1", x.prove(1, 1), 1);
        check.same("rows", Check.rows(x), "10/7/15");
        check.due("prove 10", x.prove(0, 10), 10);
        check.due("row 9", x.row(9, 1), x.depth(0, 10));
        String rows = Check.rows(x);
        check.due("prove 0", x.prove(0, 0), -1);
        check.due("prove 11", x.prove(0, 11), -1);
        check.due("prove -1", x.prove(0, -1), -1);
        check.due("prove(2, 1)", x.prove(2, 1), -1);
        check.due("prove(-1, 1)", x.prove(-1, 1), -1);
        check.same("rows stay", Check.rows(x), rows);
        check.same("cloths stay", Check.cloths(x), cloths);
        check.due("day", x.state(0), 0);
    }

    private static void altering() {
        IntentVats x = Check.told("cloth;");
        check.due("no rows", x.alterRow(0, 0, 1), -9);
        x.prove(0, 3);
        check.due("alter", x.alterRow(2, 0, Integer.MIN_VALUE), 3);
        check.due("alter", x.alterRow(2, 0, -5), Integer.MIN_VALUE);
        check.due("alter", x.alterRow(0, 2, 1), 8);
        check.due("alter", x.alterRow(1, 1, 77), 2);
        check.same("rows", Check.rows(x), "1/8/1 1/77/2 -5/5/5");
        check.due("alter 3", x.alterRow(3, 0, 1), -9);
        check.due("alter -1", x.alterRow(-1, 0, 1), -9);
        check.due("alter what 3", x.alterRow(1, 3, 1), -9);
        check.due("alter what -1", x.alterRow(1, -1, 1), -9);
        check.same("rows stay", Check.rows(x), "1/8/1 1/77/2 -5/5/5");
        x.days(1);
        x.cloth(1);
        check.same("rows stay", Check.rows(x), "1/8/1 1/77/2 -5/5/5");
    }

    private static void judging() {
        IntentVats x = Check.told("cloth; cloth about 3 deep 50 hung; wool;");
        check.due("no rows", x.judge(0), 0);
        check.due("bad without rows", x.judge(3), -1);
        x.prove(0, 10);
        String before = Check.look(x);
        check.due("right", x.judge(0), 0);
        check.due("of another", x.judge(1), 1);
        check.due("bad", x.judge(3), -1);
        check.due("bad", x.judge(-1), -1);
        check.same("nothing changes", Check.look(x), before);
        for (int i = 9; i >= 0; i--) {
            for (int what = 0; what < 3; what++) {
                int was = x.alterRow(i, what, -1);
                check.due("altered", x.judge(0), i + 1);
                x.alterRow(i, what, was);
            }
            x.alterRow(i, i % 3, 1000);
        }
        check.due("the first", x.judge(0), 1);
        x.prove(0, 4);
        x.steep(1, 4, 50);
        check.due("the others' depths alone are told", x.judge(0), 0);
        x.steep(1, 4, 51);
        check.due("from how it is now", x.judge(0), 1);
    }
}
