/** Promises 1 and 4 to 9: a new object, laws, vats, the roster. */
public final class MillTest {
    private static final Check check = new Check();

    public static void main(String[] args) {
        newObject();
        laws();
        vats();
        roster();
        check.end();
    }

    private static void newObject() {
        IntentVats x = new IntentVats();
        check.due("BAD", IntentVats.BAD, -1);
        check.due("FULL", IntentVats.FULL, -2);
        check.due("NONE", IntentVats.NONE, -3);
        check.same("laws", Check.laws(x), "3 2 4 20");
        check.same("vats", Check.vats(x), "0/5 1/5 2/5 3/5 4/5 5/5 6/5 7/5");
        check.same("roster", Check.rosters(x), "123456");
        for (int what = 0; what < 7; what++) check.due("many " + what, x.many(what), 0);
        check.due("day", x.state(0), 0);
        check.due("vat of today", x.state(1), 1);
        for (int what = 2; what < 6; what++) check.due("state " + what, x.state(what), 0);
        check.due("z", x.seed(5), 1);
        for (int s = 0; s < 4; s++) {
            check.due("sheet " + s, x.item(s, 0, 0), -11);
            check.due("shelf " + s, x.taken(s, 0), -11);
        }
        check.due("again", x.again(), -3);
        check.due("trace", x.trace(0), -3);
        check.due("row", x.row(0, 0), -9);
    }

    private static void laws() {
        IntentVats x = new IntentVats();
        int[] first = {3, 2, 4, 20};
        int[] most = {9, 9, 9, 99};
        for (int law = 0; law < 4; law++) {
            int v = most[law];
            check.due("set law " + law, x.set(law, v), first[law]);
            check.due("law " + law, x.lawOf(law), v);
            check.due("set back " + law, x.set(law, 0), v);
            check.due("law 0 of " + law, x.lawOf(law), 0);
            int l = law;
            check.refused("set above", x, () -> x.set(l, v + 1), -1);
            check.due("set below", x.set(law, -1), -1);
        }
        check.due("law kept", x.lawOf(3), 0);
        check.due("set(-1)", x.set(-1, 0), -1);
        check.due("set(4)", x.set(4, 0), -1);
        check.due("lawOf(-1)", x.lawOf(-1), -1);
        check.due("lawOf(4)", x.lawOf(4), -1);
    }

    private static void vats() {
        IntentVats x = new IntentVats();
        check.due("fill purpose", x.fill(7, 0, 9), 7);
        check.due("fill strength", x.fill(7, 1, 0), 5);
        check.due("fill strength", x.fill(0, 1, 9), 5);
        check.due("fill purpose", x.fill(0, 0, 0), 0);
        check.same("vats", Check.vats(x), "0/9 1/5 2/5 3/5 4/5 5/5 6/5 9/0");
        check.due("what it was", x.fill(7, 1, 3), 0);
        int[][] bad = {{-1, 0, 1}, {8, 0, 1}, {1, 2, 1}, {1, -1, 1}, {1, 0, 10}, {1, 0, -1}, {1, 1, 10}, {1, 1, -1}};
        String before = Check.look(x);
        for (int[] b : bad) check.due("bad fill", x.fill(b[0], b[1], b[2]), -1);
        check.same("vats", Check.look(x), before);
        check.due("vatOf(-1, 0)", x.vatOf(-1, 0), -1);
        check.due("vatOf(8, 0)", x.vatOf(8, 0), -1);
        check.due("vatOf(0, 2)", x.vatOf(0, 2), -1);
        check.due("vatOf(0, -1)", x.vatOf(0, -1), -1);
    }

    private static void roster() {
        IntentVats x = new IntentVats();
        check.due("roster(0, 7)", x.roster(0, 7), 1);
        check.due("roster(5, -1)", x.roster(5, -1), 6);
        check.due("roster(5, 0)", x.roster(5, 0), 0);
        check.due("roster(3, -1)", x.roster(3, -1), 4);
        check.same("roster", Check.rosters(x), "823051");
        check.due("today", x.state(1), 8);
        String before = Check.look(x);
        check.due("roster(-1, 0)", x.roster(-1, 0), -1);
        check.due("roster(6, 0)", x.roster(6, 0), -1);
        check.due("roster(0, 8)", x.roster(0, 8), -1);
        check.due("roster(0, -2)", x.roster(0, -2), -1);
        check.same("roster", Check.look(x), before);
        check.due("rosterOf(-1)", x.rosterOf(-1), -1);
        check.due("rosterOf(6)", x.rosterOf(6), -1);
    }
}
