/** Promises 39 to 42: sheets, and depths taken from them. */
public final class SheetTest {
    private static final Check check = new Check();

    public static void main(String[] args) {
        making();
        narrowing();
        putRefusals();
        itemRefusals();
        minding();
        mindingRefusals();
        check.end();
    }

    private static void making() {
        IntentVats x = new IntentVats();
        for (int s = 0; s < 4; s++) {
            check.due("missing", x.item(s, s, 0), -11);
            check.due("sheet", x.sheet(s, s, 40), 1);
            for (int i = 0; i < 40; i++) check.due("all 0", x.item(s, s, i), 0);
            check.due("40 items", x.item(s, s, 40), -12);
        }
        x.put(0, 1, 7);
        check.due("anew", x.sheet(0, 0, 2), 1);
        check.due("all 0", x.item(0, 0, 1), 0);
        check.due("two items", x.item(0, 0, 2), -12);
        check.due("none", x.sheet(1, 2, 0), 1);
        check.due("no items", x.item(1, 2, 0), -12);
        x.put(0, 1, 9);
        check.due("sheet -1", x.sheet(-1, 0, 1), -1);
        check.due("sheet 4", x.sheet(4, 0, 1), -1);
        check.due("sort 4", x.sheet(0, 4, 1), -1);
        check.due("sort -2", x.sheet(0, -2, 1), -1);
        check.due("41", x.sheet(0, 0, 41), -1);
        check.due("-1", x.sheet(0, 0, -1), -14);
        check.due("least", x.sheet(0, 3, Integer.MIN_VALUE), -14);
        check.due("bad first", x.sheet(0, 4, -1), -1);
        check.due("bad first", x.sheet(4, 0, -1), -1);
        check.due("it stays", x.item(0, 0, 1), 9);
        check.due("missing, of no number", x.sheet(0, -1, 41), 1);
        check.due("missing", x.item(0, 0, 0), -11);
        check.due("missing again", x.sheet(0, -1, -7), 1);
    }

    private static void narrowing() {
        IntentVats x = new IntentVats();
        for (int s = 0; s < 4; s++) x.sheet(s, s, 3);
        int[] vs = {127, 128, -129, 255, 256, 32767, 32768, -32769, 65535, Integer.MAX_VALUE, Integer.MIN_VALUE, -1, 0x12345678};
        for (int v : vs) {
            for (int s = 0; s < 4; s++) check.due("put", x.put(s, 2, v), 1);
            check.due("byte " + v, x.item(0, 0, 2), (byte) v);
            check.due("short " + v, x.item(1, 1, 2), (short) v);
            check.due("int " + v, x.item(2, 2, 2), v);
            check.due("long " + v, x.item(3, 3, 2), v);
        }
        check.due("the others", x.item(2, 2, 1), 0);
    }

    private static void putRefusals() {
        IntentVats x = new IntentVats();
        x.sheet(1, 2, 2);
        check.due("sheet -1", x.put(-1, 0, 1), -1);
        check.due("sheet 4", x.put(4, 0, 1), -1);
        check.due("missing", x.put(0, 0, 1), -11);
        check.due("missing before outside", x.put(0, -1, 1), -11);
        check.due("-1", x.put(1, -1, 1), -12);
        check.due("2", x.put(1, 2, 1), -12);
        check.due("0", x.item(1, 2, 0) + x.item(1, 2, 1), 0);
    }

    private static void itemRefusals() {
        IntentVats x = new IntentVats();
        x.sheet(1, 2, 2);
        check.due("sheet -1", x.item(-1, 0, 0), -1);
        check.due("sheet 4", x.item(4, 0, 0), -1);
        check.due("sort -1", x.item(1, -1, 0), -1);
        check.due("sort 4", x.item(1, 4, 0), -1);
        check.due("bad before missing", x.item(0, 4, 0), -1);
        check.due("missing", x.item(0, 2, 9), -11);
        check.due("sort before place", x.item(1, 3, 9), -13);
        check.due("-1", x.item(1, 2, -1), -12);
        check.due("2", x.item(1, 2, 2), -12);
    }

    private static void minding() {
        IntentVats x = Check.told("cloth about 1 deep 5; wool about 2 deep 6 hung; felt; linen about 4 deep 8;");
        x.sheet(3, 0, 6);
        int[] v = {12, 120, -3, 50, 99, 0};
        for (int i = 0; i < 6; i++) x.put(3, i, v[i]);
        check.due("minds", x.minds(3, 0, 0, 4), 4);
        check.same("cloths", Check.cloths(x), "0/2/12/0/0 1/3/99/1/0 3/0/0/0/0 2/5/50/0/0");
        check.due("minds", x.minds(3, 2, 0, 1), 1);
        check.due("minds", x.minds(3, 4, 1, 1), 1);
        check.due("minds", x.minds(3, 5, 3, 1), 1);
        check.same("cloths", Check.cloths(x), "0/0/0/0/0 1/3/99/1/0 3/0/0/0/0 2/0/0/0/0");
        check.due("about nothing", x.minds(3, 0, 0, 1), 1);
        check.due("stays so", x.of(0, 1) + x.of(0, 2), 0);
        check.due("none", x.minds(3, 6, 0, 0), 0);
        check.due("none", x.minds(3, 0, 3, 0), 0);
    }

    private static void mindingRefusals() {
        IntentVats x = Check.told("cloth about 1 deep 5; wool about 2 deep 6; felt about 1;");
        x.sheet(0, 0, 3);
        x.sheet(1, 1, 3);
        String before = Check.look(x);
        check.due("sheet -1", x.minds(-1, 0, 0, 1), -1);
        check.due("sheet 4", x.minds(4, 0, 0, 1), -1);
        check.due("cloth -1", x.minds(0, 0, -1, 1), -1);
        check.due("cloth 3", x.minds(0, 0, 3, 0), -1);
        check.due("n -1", x.minds(0, 0, 0, -1), -1);
        check.due("n 9", x.minds(0, 0, 0, 9), -1);
        check.due("beyond the last", x.minds(0, 0, 1, 3), -1);
        check.due("beyond the last", x.minds(0, 0, 0, 4), -1);
        check.due("bad before missing", x.minds(2, 0, 1, 3), -1);
        check.due("missing", x.minds(2, 9, 0, 1), -11);
        check.due("sort", x.minds(1, 9, 0, 1), -13);
        check.due("i -1", x.minds(0, -1, 0, 0), -12);
        check.due("i 4", x.minds(0, 4, 0, 0), -12);
        check.due("i at the end", x.minds(0, 3, 0, 0), 0);
        check.due("not so many", x.minds(0, 3, 0, 1), -12);
        check.due("not so many", x.minds(0, 1, 0, 3), -12);
        check.due("most", x.minds(0, Integer.MAX_VALUE, 0, 3), -12);
        check.same("nothing changes", Check.look(x), before);
        check.due("just so many", x.minds(0, 0, 0, 3), 3);
    }
}
