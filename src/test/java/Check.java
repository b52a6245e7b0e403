import java.util.function.LongSupplier;
import java.util.function.Supplier;
import java.util.function.ToLongFunction;

/** Counts the answers that are not as due, and looks at all that can be seen of an object. */
final class Check {
    private static final long LONGEST = 300_000;

    private int wrong = 0;
    private String sentence = "";

    /** A call that does not end fails the test as well. */
    Check() {
        Thread watch = new Thread(this::endLate);
        watch.setDaemon(true);
        watch.start();
    }

    private void endLate() {
        try {
            Thread.sleep(LONGEST);
        } catch (InterruptedException e) {
            return;
        }
        System.out.println(sentence + "a call does not end");
        Runtime.getRuntime().halt(1);
    }

    /** What the document says, of the calls that follow. */
    void sentence(String told) {
        sentence = "[" + told + "] ";
    }

    void due(String call, long got, long want) {
        if (got == want) return;
        wrong++;
        System.out.println(sentence + call + " answered " + got + ", due is " + want);
    }

    void same(String what, String got, String want) {
        if (got.equals(want)) return;
        wrong++;
        System.out.println(sentence + what + " is " + got + ", due is " + want);
    }

    /** A call that is refused: the answer is due, and nothing that can be seen changes. */
    void refused(String call, IntentVats x, LongSupplier asked, long want) {
        String before = look(x);
        due(call, asked.getAsLong(), want);
        same("what is seen after " + call, look(x), before);
    }

    /** A call that is refused, against one of the same make without it: also the tape and what is kept are the same. */
    void refusedBy(Supplier<IntentVats> made, String call, ToLongFunction<IntentVats> asked, long want) {
        due(call, asked.applyAsLong(made.get()), want);
        same("what is seen after " + call, seenAll(made, asked), seenAll(made, x -> 0));
    }

    /** The same of a busy mill. */
    void refused(String call, ToLongFunction<IntentVats> asked, long want) {
        refusedBy(Check::busy, call, asked, want);
    }

    void bad(String call, ToLongFunction<IntentVats> asked) {
        refused(call, asked, -1);
    }

    private static String seenAll(Supplier<IntentVats> made, ToLongFunction<IntentVats> asked) {
        IntentVats plain = made.get();
        IntentVats kept = made.get();
        IntentVats milled = made.get();
        asked.applyAsLong(plain);
        asked.applyAsLong(kept);
        asked.applyAsLong(milled);
        return look(plain) + "|" + kept.again() + look(kept) + "|" + milled.mill() + look(milled);
    }

    /** Four cloths, other ones kept, three sheets, all sorts of shelves, rows, a trace, a text on the tape. */
    static IntentVats busy() {
        IntentVats x = told("wool about 3 deep 9; linen about 1 hung; felt about 6; slip 30; light 4; vat 2 of 9;");
        x.seed(4711);
        x.keep();
        x.days(2);
        x.cloth(5);
        x.steep(3, 9, 99);
        x.seed(42);
        x.roster(4, -1);
        busyStuff(x);
        feedText(x, "muslin about 2 deep 5 hung; slip 3;");
        return x;
    }

    private static void busyStuff(IntentVats x) {
        x.sheet(0, 0, 3);
        x.put(0, 0, 7);
        x.put(0, 2, -128);
        x.sheet(1, 1, 2);
        x.put(1, 1, 300);
        x.sheet(2, 3, 40);
        x.put(2, 1, 70000);
        x.shelf(0, 0, 1);
        x.shelf(1, 1, 0);
        x.shelf(2, 0, 3);
        x.act(0, 3, 7);
        x.prove(1, 4);
        x.alterRow(2, 1, 55);
    }

    void end() {
        System.out.println(wrong == 0 ? "all answers are as due" : wrong + " answers are not as due");
        if (wrong != 0) System.exit(1);
    }

    static void feedText(IntentVats x, String text) {
        for (int i = 0; i < text.length(); i += 8) {
            int n = Math.min(8, text.length() - i);
            long eight = 0;
            for (int k = n - 1; k >= 0; k--) eight = eight << 8 | text.charAt(i + k);
            x.feed(eight, n);
        }
    }

    static int millOf(IntentVats x, String text) {
        feedText(x, text);
        return x.mill();
    }

    static IntentVats told(String text) {
        IntentVats x = new IntentVats();
        if (millOf(x, text) < 0) throw new IllegalStateException("no text: " + text);
        return x;
    }

    static String cloth(IntentVats x, int c) {
        return x.of(c, 0) + "/" + x.of(c, 1) + "/" + x.of(c, 2) + "/" + x.of(c, 3) + "/" + x.of(c, 4);
    }

    static String cloths(IntentVats x) {
        StringBuilder b = new StringBuilder();
        int count = x.many(0);
        for (int c = 0; c < count; c++) b.append(c == 0 ? "" : " ").append(cloth(x, c));
        return b.toString();
    }

    static String vats(IntentVats x) {
        StringBuilder b = new StringBuilder();
        for (int v = 0; v < 8; v++) b.append(v == 0 ? "" : " ").append(x.vatOf(v, 0)).append('/').append(x.vatOf(v, 1));
        return b.toString();
    }

    static String rosters(IntentVats x) {
        StringBuilder b = new StringBuilder();
        for (int r = 0; r < 6; r++) b.append(x.rosterOf(r));
        return b.toString();
    }

    static String laws(IntentVats x) {
        return x.lawOf(0) + " " + x.lawOf(1) + " " + x.lawOf(2) + " " + x.lawOf(3);
    }

    static int z(IntentVats x) {
        int z = x.seed(0);
        x.seed(z);
        return z;
    }

    static String trace(IntentVats x) {
        StringBuilder b = new StringBuilder();
        int bodies = x.many(6);
        for (int i = 0; i < bodies; i++) b.append(i == 0 ? "" : " ").append(x.trace(i));
        return b.toString();
    }

    static String rows(IntentVats x) {
        StringBuilder b = new StringBuilder();
        int rows = x.many(4);
        for (int i = 0; i < rows; i++) {
            b.append(i == 0 ? "" : " ").append(x.row(i, 0)).append('/').append(x.row(i, 1)).append('/').append(x.row(i, 2));
        }
        return b.toString();
    }

    private static String shelves(IntentVats x) {
        StringBuilder b = new StringBuilder();
        for (int s = 0; s < 4; s++) {
            b.append('[').append(x.taken(s, 0));
            for (int as = 10; as < 14; as++) b.append(' ').append(x.taken(s, as));
            b.append(']');
        }
        return b.toString();
    }

    private static String sheets(IntentVats x) {
        StringBuilder b = new StringBuilder();
        for (int s = 0; s < 4; s++) {
            for (int sort = 0; sort < 4; sort++) {
                for (int i = 0; i < 3; i++) b.append(' ').append(x.item(s, sort, i));
            }
            b.append(';');
        }
        return b.toString();
    }

    /** All that can be seen without changing anything, but for what is kept. */
    static String look(IntentVats x) {
        return x.state(0) + "|" + laws(x) + "|" + vats(x) + "|" + rosters(x) + "|" + cloths(x) + "|" + z(x)
            + "|" + x.many(5) + "|" + rows(x) + "|" + trace(x) + "|" + sheets(x) + "|" + shelves(x);
    }
}
