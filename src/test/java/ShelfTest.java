/** Promises 43 to 46: shelves, acts, the trace. */
public final class ShelfTest {
    private static final Check check = new Check();

    public static void main(String[] args) {
        shelving();
        rowsOnShelves();
        taking();
        goneCloths();
        acting();
        parting();
        noTrace();
        againstThings();
        check.end();
    }

    private static void shelving() {
        IntentVats x = Check.told("cloth; wool;");
        x.sheet(3, 1, 5);
        check.due("a cloth", x.shelf(0, 0, 1), 1);
        check.due("a row", x.shelf(1, 1, 3), 1);
        check.due("a missing row", x.shelf(2, 1, 0), 1);
        check.due("wool", x.taken(0, 1), 1);
        check.due("shorts", x.taken(1, 11), 5);
        check.due("nothing", x.taken(2, 10), -11);
        String before = Check.look(x);
        check.due("shelf -1", x.shelf(-1, 0, 0), -1);
        check.due("shelf 4", x.shelf(4, 0, 0), -1);
        check.due("what 3", x.shelf(0, 3, 0), -1);
        check.due("what -1", x.shelf(0, -1, 0), -1);
        check.due("cloth 2", x.shelf(0, 0, 2), -1);
        check.due("cloth -1", x.shelf(0, 0, -1), -1);
        check.due("sheet 4", x.shelf(0, 1, 4), -1);
        check.due("sheet -1", x.shelf(0, 1, -1), -1);
        check.same("nothing changes", Check.look(x), before);
        check.due("nothing", x.shelf(0, 2, 99), 1);
        check.due("nothing", x.taken(0, 1), -11);
        check.due("nothing for the row", x.shelf(1, 1, 2), 1);
        check.due("nothing", x.taken(1, 11), -11);
        x.shelf(1, 1, 3);
        check.due("a cloth for the row", x.shelf(1, 0, 0), 1);
        check.due("cloth", x.taken(1, 0), 0);
        check.due("no row", x.taken(1, 11), -13);
        check.due("a row for the cloth", x.shelf(1, 1, 3), 1);
        check.due("row", x.taken(1, 11), 5);
    }

    private static void rowsOnShelves() {
        IntentVats x = new IntentVats();
        for (int s = 0; s < 4; s++) {
            x.sheet(s, s, s * 13);
            x.shelf(s, 1, s);
            for (int as = 10; as < 14; as++) check.due("as " + as, x.taken(s, as), as - 10 == s ? s * 13 : -13);
            check.due("as a cloth", x.taken(s, 0), -13);
        }
        x.sheet(3, 0, 2);
        check.due("the row that was put there", x.taken(3, 13), 39);
        x.sheet(2, -1, 0);
        check.due("the row that was put there", x.taken(2, 12), 26);
    }

    private static void taking() {
        boolean[][] under = new boolean[6][6];
        int[] parent = {-1, 0, 0, 1, 2, 0};
        IntentVats x = Check.told("cloth; wool; linen; felt; shroud; muslin;");
        for (int kind = 0; kind < 6; kind++) {
            for (int k = kind; k >= 0; k = parent[k]) under[kind][k] = true;
            x.shelf(3, 0, kind);
            for (int as = 0; as < 6; as++) check.due(kind + " as " + as, x.taken(3, as), under[kind][as] ? kind : -13);
            for (int as = 10; as < 14; as++) check.due("as a row", x.taken(3, as), -13);
        }
        x.mind(5, 4);
        check.due("of its kind now", x.taken(3, 2), 5);
        for (int as : new int[] {-1, 6, 9, 14, Integer.MAX_VALUE, Integer.MIN_VALUE}) {
            check.due("as " + as, x.taken(3, as), -1);
            check.due("bad before nothing", x.taken(0, as), -1);
        }
        check.due("shelf -1", x.taken(-1, 0), -1);
        check.due("shelf 4", x.taken(4, 0), -1);
        check.due("nothing", x.taken(0, 0), -11);
        check.due("nothing", x.taken(0, 13), -11);
    }

    private static void goneCloths() {
        IntentVats x = Check.told("cloth; wool;");
        x.keep();
        x.cloth(2);
        x.shelf(0, 0, 2);
        x.act(0, 0, 1);
        check.due("there", x.taken(0, 2), 2);
        x.again();
        check.due("nothing at the time", x.taken(0, 2), -11);
        check.due("nothing at the time", x.taken(0, 10), -11);
        check.due("no act", x.act(0, 0, 1), 0);
        check.due("no trace", x.many(6), 0);
        x.cloth(5);
        check.due("by its number", x.taken(0, 5), 2);
    }

    private static void act(IntentVats x, int act, int in, int out, String trace) {
        check.due("act " + act + " of " + in, x.act(1, act, in), out);
        check.same("trace", Check.trace(x), trace);
        check.due("bodies", x.many(6), trace.isEmpty() ? 0 : trace.split(" ").length);
    }

    private static IntentVats things() {
        return Check.told("cloth about 3; cloth; wool about 6; linen about 1; shroud; felt about 0; muslin about 8;");
    }

    private static void acting() {
        IntentVats x = things();
        x.shelf(1, 0, 0);
        act(x, 0, 7, 35, "10");
        act(x, 1, 7, 71, "11 10");
        act(x, 2, -7, -1, "12");
        act(x, 3, 7, 71 ^ 240, "13 11 10");
        x.shelf(1, 0, 2);
        act(x, 0, 7, 37, "10");
        act(x, 1, 7, 37 + 63 - 6, "20 11 10");
        act(x, 2, 17, 3, "12");
        act(x, 3, 7, 94 ^ 240, "13 20 11 10");
        x.shelf(1, 0, 3);
        act(x, 0, 7, 76, "30 10");
        act(x, 1, 7, 76 + 18, "11 30 10");
        act(x, 2, 7, -7, "12");
        act(x, 3, 7, (94 ^ 240) - 3, "31 13 11 30 10 12");
        x.shelf(1, 0, 4);
        act(x, 0, 7, -78, "40 30 10");
        act(x, 1, 7, -78 ^ -8, "41 11 40 30 10 40 30 10");
        act(x, 2, 7, -1, "12");
        act(x, 3, 7, (-78 ^ -8 ^ 240) - 1, "31 13 41 11 40 30 10 40 30 10 12");
        x.shelf(1, 0, 5);
        act(x, 0, 7, 38, "51 10");
        act(x, 1, 7, 38 + 9 - 6, "20 11 51 10");
        act(x, 2, 7, -2 + 1, "50 12");
        act(x, 3, 7, 41 ^ 240, "13 20 11 51 10");
        x.shelf(1, 0, 6);
        act(x, 0, 7, 41, "10");
        act(x, 1, 7, 41 + 81, "11 10");
        act(x, 2, 7, 2 - 36, "61 12 10");
        act(x, 3, 7, (122 ^ 240) * 3, "60 13 11 10");
        check.due("i-th", x.trace(3), 10);
        check.due("behind the last", x.trace(4), -3);
        check.due("before the first", x.trace(-1), -3);
        check.due("far off", x.trace(Integer.MAX_VALUE), -3);
    }

    private static void parting() {
        IntentVats x = Check.told("cloth; linen about 0; felt about 1; muslin about 2; shroud about 3;");
        x.shelf(1, 0, 0);
        act(x, 2, 5, -15, "12");
        act(x, 3, 5, 25 ^ 240, "13 11 10");
        x.shelf(1, 0, 1);
        act(x, 2, 5, -15, "12");
        act(x, 3, 5, -15, "31 13 11 30 10 12");
        x.shelf(1, 0, 2);
        act(x, 2, 5, -15, "50 12");
        x.shelf(1, 0, 3);
        act(x, 2, 5, -15, "61 12");
        x.shelf(1, 0, 4);
        act(x, 3, 5, -15, "31 13 41 11 40 30 10 40 30 10 12");
        x.steep(4, -1, 0);
        x.mind(4, 0);
        act(x, 2, Integer.MIN_VALUE, 536870912, "12");
        act(x, 0, Integer.MAX_VALUE, Integer.MAX_VALUE, "10");
        x.mind(4, 3);
        x.steep(4, 2, 1);
        act(x, 2, Integer.MIN_VALUE, Integer.MIN_VALUE, "50 12");
        act(x, 2, Integer.MAX_VALUE - 2, Integer.MIN_VALUE + 3, "50 12");
    }

    private static void noTrace() {
        IntentVats x = things();
        x.sheet(0, 2, 3);
        x.shelf(2, 1, 0);
        x.shelf(1, 0, 0);
        int[][] none = {{-1, 0}, {4, 0}, {1, -1}, {1, 4}, {0, 0}, {2, 0}, {2, 3}};
        for (int[] a : none) {
            act(x, 1, 7, 71, "11 10");
            check.due("no act", x.act(a[0], a[1], 7), 0);
            check.due("no trace", x.many(6), 0);
            check.due("no trace", x.trace(0), -3);
        }
        act(x, 1, 7, 71, "11 10");
        x.days(1);
        x.shelf(1, 2, 0);
        x.again();
        check.same("the latest act's", Check.trace(x), "11 10");
    }

    // ---- against real things of these kinds ----

    private static class Stuff {
        int n, a;
        int rubs(int x) { return x * 5 + n; }
        int steeps(int x) { return rubs(x) + a * 9; }
        int parts(int x) { return x / (a - n); }
        int dries(int x) { return steeps(x) ^ 240; }
    }

    private static class Wool extends Stuff {
        @Override int steeps(int x) { return super.steeps(x) - 6; }
    }

    private static class Linen extends Stuff {
        @Override int rubs(int x) { return super.rubs(x) * 2; }
        @Override int dries(int x) { return super.dries(x) + parts(n); }
    }

    private static final class Shroud extends Linen {
        @Override int rubs(int x) { return 0 - super.rubs(x); }
        @Override int steeps(int x) { return super.steeps(x) ^ rubs(a); }
    }

    private static final class Felt extends Wool {
        @Override int parts(int x) { return super.parts(x + 3) + a; }
        @Override int rubs(int x) { return super.rubs(x) - 2; }
    }

    private static final class Muslin extends Stuff {
        @Override int dries(int x) { return super.dries(x) * 3; }
        @Override int parts(int x) { return super.parts(x) - rubs(n); }
    }

    private static Stuff made(int kind) {
        switch (kind) {
            case 1: return new Wool();
            case 2: return new Linen();
            case 3: return new Felt();
            case 4: return new Shroud();
            case 5: return new Muslin();
            default: return new Stuff();
        }
    }

    private static int done(Stuff s, int act, int x) {
        try {
            return act == 0 ? s.rubs(x) : act == 1 ? s.steeps(x) : act == 2 ? s.parts(x) : s.dries(x);
        } catch (ArithmeticException e) {
            return -15;
        }
    }

    private static void againstThings() {
        int[] xs = {0, 1, -1, 7, -100, 12345678, Integer.MAX_VALUE, Integer.MIN_VALUE, Integer.MIN_VALUE + 3, Integer.MIN_VALUE - 3};
        for (int kind = 0; kind < 6; kind++) {
            IntentVats x = Check.told("cloth; cloth; cloth; cloth; cloth; cloth; cloth; cloth;");
            for (int n = 0; n < 8; n++) {
                x.mind(n, kind);
                x.shelf(0, 0, n);
                for (int a = 0; a <= 10; a++) {
                    x.steep(n, a - 1, a == 0 ? 0 : 9);
                    Stuff s = made(kind);
                    s.n = n;
                    s.a = a;
                    for (int act = 0; act < 4; act++) {
                        for (int in : xs) check.due(kind + " act " + act, x.act(0, act, in), done(s, act, in));
                    }
                }
            }
        }
    }
}
