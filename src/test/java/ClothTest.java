/** Promises 10 to 16: cloths, what they do, dipping. */
public final class ClothTest {
    private static final Check check = new Check();

    public static void main(String[] args) {
        coming();
        doing();
        minding();
        steeping();
        hanging();
        dipping();
        dippingEdges();
        check.end();
    }

    private static void coming() {
        IntentVats x = new IntentVats();
        check.due("cloth(-1)", x.cloth(-1), -1);
        check.due("cloth(6)", x.cloth(6), -1);
        for (int i = 0; i < 8; i++) check.due("cloth", x.cloth(i % 6), i);
        check.due("ninth", x.cloth(0), -2);
        check.due("bad before full", x.cloth(6), -1);
        for (int i = 0; i < 8; i++) check.same("cloth " + i, Check.cloth(x, i), i % 6 + "/0/0/0/0");
        check.due("many", x.many(0), 8);
        check.due("of(-1, 0)", x.of(-1, 0), -1);
        check.due("of(8, 0)", x.of(8, 0), -1);
        check.due("of(0, 5)", x.of(0, 5), -1);
        check.due("of(0, -1)", x.of(0, -1), -1);
        check.due("none there", new IntentVats().of(0, 0), -1);
    }

    private static void does(IntentVats x, int kind, int takes, int fights, int fades) {
        x.mind(0, kind);
        check.due("takes " + kind, x.does(0, 6, 0), 1000 + takes);
        check.due("fights " + kind, x.does(0, 6, 1), 1000 + fights);
        check.due("fades " + kind, x.does(0, 6, 2), 1000 + fades);
    }

    private static void doing() {
        IntentVats x = Check.told("cloth; strong 6 8; mordant 3; light 2; quarrel 4;");
        does(x, 0, 11, 8, 2);
        does(x, 1, 14, 4, 1);
        does(x, 2, 9, 12, 3);
        does(x, 3, 28, 7, 0);
        does(x, 4, 13, 24, 6);
        does(x, 5, 5, 9, 5);
        x = Check.told("cloth; strong 6 0; mordant 0; light 9; quarrel 9;");
        does(x, 0, 0, 0, 9);
        does(x, 1, 3, -9, 8);
        does(x, 2, -9, 9, 10);
        does(x, 3, 6, -9, 0);
        does(x, 4, 0, 18, 20);
        does(x, 5, 0, 1, 12);
        x = Check.told("cloth; strong 6 0; mordant 1; light 0; quarrel 0;");
        does(x, 1, 4, 0, -1);
        does(x, 4, 1, 0, 2);
        does(x, 5, 0, 1, 3);
        IntentVats y = x;
        check.refused("does(1, ..)", y, () -> y.does(1, 0, 0), -1);
        check.due("does(-1)", y.does(-1, 0, 0), -1);
        check.due("does vat -1", y.does(0, -1, 2), -1);
        check.due("does vat 8", y.does(0, 8, 2), -1);
        check.due("does what 3", y.does(0, 0, 3), -1);
        check.due("does what -1", y.does(0, 0, -1), -1);
    }

    private static void minding() {
        IntentVats x = Check.told("cloth; felt about 3 deep 7 hung;");
        check.due("mind", x.mind(1, 4), 3);
        check.same("minded", Check.cloths(x), "0/0/0/0/0 4/4/7/1/0");
        check.due("mind", x.mind(1, 0), 4);
        String before = Check.look(x);
        check.due("mind(2)", x.mind(2, 0), -1);
        check.due("mind(-1)", x.mind(-1, 0), -1);
        check.due("mind kind 6", x.mind(0, 6), -1);
        check.due("mind kind -1", x.mind(0, -1), -1);
        check.same("refused", Check.look(x), before);
    }

    private static void steeping() {
        IntentVats x = Check.told("cloth; wool;");
        check.due("steep", x.steep(0, 9, 99), 0);
        check.due("steep", x.steep(0, 0, 1), 10);
        check.same("steeped", Check.cloths(x), "0/1/1/0/0 1/0/0/0/0");
        check.due("bared", x.steep(0, -1, 0), 1);
        check.due("steep again", x.steep(1, 4, 50), 0);
        check.same("bared", Check.cloths(x), "0/0/0/0/0 1/5/50/0/0");
        int[][] bad = {{2, 1, 1}, {-1, 1, 1}, {1, 10, 1}, {1, -2, 1}, {1, -2, 0}, {1, -1, 1}, {1, 1, 0}, {1, 1, 100}, {1, 1, -1}, {1, -1, -1}};
        String before = Check.look(x);
        for (int[] b : bad) check.due("bad steep " + b[1] + " " + b[2], x.steep(b[0], b[1], b[2]), -1);
        check.same("refused", Check.look(x), before);
    }

    private static void hanging() {
        IntentVats x = Check.told("cloth; wool hung;");
        check.due("hang", x.hang(0, 1), 0);
        check.due("hang", x.hang(0, 1), 1);
        check.due("take down", x.hang(1, 0), 1);
        check.due("hung", x.state(2), 1);
        String before = Check.look(x);
        check.due("hang 2", x.hang(0, 2), -1);
        check.due("hang -1", x.hang(0, -1), -1);
        check.due("hang(2, 1)", x.hang(2, 1), -1);
        check.due("hang(-1, 1)", x.hang(-1, 1), -1);
        check.same("refused", Check.look(x), before);
    }

    private static void dipping() {
        IntentVats x = Check.told("cloth; wool hung; strong 2 9;");
        check.due("about nothing", x.dip(0, 2), 3);
        check.same("takes 12", Check.cloth(x, 0), "0/3/12/0/1");
        check.due("strength", x.vatOf(2, 1), 8);
        check.due("about the same", x.dip(0, 2), 3);
        check.same("takes 11", Check.cloth(x, 0), "0/3/23/0/2");
        x.fill(5, 1, 9);
        check.due("fights", x.dip(0, 5), 3);
        check.same("fights 9", Check.cloth(x, 0), "0/3/14/0/3");
        check.due("fights", x.dip(0, 5), 3);
        check.same("fights 8", Check.cloth(x, 0), "0/3/6/0/4");
        check.due("beaten", x.dip(0, 5), 6);
        check.same("fights 7", Check.cloth(x, 0), "0/6/1/0/5");
        x.steep(0, 3, 6);
        check.due("to nothing", x.dip(0, 5), 0);
        check.same("fights 6", Check.cloth(x, 0), "0/0/0/0/6");
        check.due("the hung one, too", x.dip(1, 7), 8);
        check.same("wool", Check.cloth(x, 1), "1/8/11/1/1");
        check.due("another vat of that purpose", x.fill(6, 0, 7), 6);
        check.due("another vat of that purpose", x.dip(1, 6), 8);
        check.same("wool", Check.cloth(x, 1), "1/8/22/1/2");
        String before = Check.look(x);
        check.due("dip(2, 0)", x.dip(2, 0), -1);
        check.due("dip(-1, 0)", x.dip(-1, 0), -1);
        check.due("dip(0, 8)", x.dip(0, 8), -1);
        check.due("dip(0, -1)", x.dip(0, -1), -1);
        check.same("refused", Check.look(x), before);
    }

    private static void dippingEdges() {
        IntentVats x = Check.told("wool about 1 deep 95; linen about 2 deep 3; linen; felt about 3 deep 90; strong 4 0; strong 2 0;"
            + "strong 3 9; light 9; quarrel 9; mordant 3; strong 5 1;");
        check.due("fights below 0", x.dip(0, 4), 2);
        check.same("99 at most", Check.cloth(x, 0), "1/2/99/0/1");
        check.due("strength 0 at least", x.vatOf(4, 1), 0);
        check.due("takes below 0", x.dip(1, 2), 0);
        check.same("nothing is left", Check.cloth(x, 1), "2/0/0/0/1");
        check.due("takes below 0 of nothing", x.dip(2, 2), 0);
        check.same("nothing comes", Check.cloth(x, 2), "2/0/0/0/1");
        check.due("takes", x.dip(3, 3), 4);
        check.same("99 at most", Check.cloth(x, 3), "3/4/99/0/1");
        x.steep(2, 0, 1);
        x.set(1, 0);
        check.due("fights more than it has", x.dip(2, 5), 6);
        check.same("linen", Check.cloth(x, 2), "2/6/9/0/2");
        check.due("strength to 0", x.vatOf(5, 1), 0);
    }
}
