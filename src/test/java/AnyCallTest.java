import java.util.Random;

/** Any calls with any numbers: none throws, the same calls answer the same, what only asks changes nothing. */
public final class AnyCallTest {
    private static final int[] EDGES = {0, 1, -1, 2, 3, 4, 5, 6, 7, 8, 9, 10, 13, 14, 20, 30, 31, 40, 41, 60, 61, 99, 100, 199, 200,
        9999, 32767, Integer.MAX_VALUE, Integer.MIN_VALUE, Integer.MAX_VALUE - 1, Integer.MIN_VALUE + 1};
    private static final int CALLS = 47;
    private static final Check check = new Check();

    public static void main(String[] args) {
        for (int seed = 0; seed < 400; seed++) run(seed);
        check.end();
    }

    private static void run(int seed) {
        IntentVats one = new IntentVats();
        IntentVats other = new IntentVats();
        Random r = new Random(seed);
        for (int i = 0; i < 512; i++) {
            int call = r.nextInt(CALLS);
            long[] a = new long[4];
            for (int k = 0; k < 4; k++) a[k] = number(r, seed % 4);
            long got = call(one, call, a);
            check.due("the same call " + call, call(other, call, a), got);
        }
        check.same("the same calls", Check.look(other), Check.look(one));
        asking(one, r);
    }

    private static long number(Random r, int how) {
        if (how == 3) return r.nextInt(4) == 0 ? r.nextLong() : EDGES[r.nextInt(EDGES.length)];
        return r.nextInt(8) == 0 ? EDGES[r.nextInt(EDGES.length)] : r.nextInt(how == 0 ? 4 : 10);
    }

    private static void asking(IntentVats x, Random r) {
        String before = Check.look(x);
        int[] asks = {3, 5, 7, 9, 10, 18, 19, 20, 21, 22, 23, 24, 25, 26, 27, 28, 29, 30, 31, 32, 34, 36, 40, 42, 44, 45};
        for (int call : asks) {
            long[] a = {r.nextInt(5), r.nextInt(5), r.nextInt(5), r.nextInt(5)};
            call(x, call, a);
        }
        check.same("what only asks", Check.look(x), before);
    }

    private static long call(IntentVats x, int call, long[] l) {
        int a = (int) l[0];
        int b = (int) l[1];
        int c = (int) l[2];
        int d = (int) l[3];
        return call < 24 ? early(x, call, l[0], b, c) : late(x, call, new int[] {a, b, c, d});
    }

    private static long early(IntentVats x, int call, long eight, int b, int c) {
        int a = (int) eight;
        switch (call) {
            case 0: return x.feed(eight, b);
            case 1: return x.mill();
            case 2: return x.set(a, b);
            case 3: return x.lawOf(a);
            case 4: return x.fill(a, b, c);
            case 5: return x.vatOf(a, b);
            case 6: return x.roster(a, b);
            case 7: return x.rosterOf(a);
            case 8: return x.cloth(a);
            case 9: return x.of(a, b);
            case 10: return x.does(a, b, c);
            case 11: return x.mind(a, b);
            case 12: return x.steep(a, b, c);
            case 13: return x.hang(a, b);
            case 14: return x.dip(a, b);
            case 15: return x.days(a);
            case 16: return x.seed(a);
            case 17: return x.day();
            case 18: return x.luck(a);
            case 19: return x.state(a);
            case 20: return x.gone(a, b);
            case 21: return x.depth(a, b);
            case 22: return x.comes(a, b);
            default: return x.bare(a);
        }
    }

    private static long late(IntentVats x, int call, int[] v) {
        int a = v[0];
        int b = v[1];
        int c = v[2];
        switch (call) {
            case 24: return x.spoilt(a);
            case 25: return x.through(a, b);
            case 26: return x.vatFor(a, b);
            case 27: return x.kindFor(a, b);
            case 28: return x.strengthFor(a, b, c, v[3]);
            case 29: return x.hangFor(a, b);
            case 30: return x.fits(a, b, c);
            case 31: return x.odds(a, b, c);
            case 32: return x.hope(a, b);
            case 33: return x.prove(a, b);
            case 34: return x.row(a, b);
            case 35: return x.alterRow(a, b, c);
            case 36: return x.judge(a);
            case 37: return x.minds(a, b, c, v[3]);
            case 38: return x.sheet(a, b, c);
            case 39: return x.put(a, b, c);
            case 40: return x.item(a, b, c);
            case 41: return x.shelf(a, b, c);
            case 42: return x.taken(a, b);
            case 43: return x.act(a, b, c);
            case 44: return x.trace(a);
            case 45: return x.many(a);
            default: return c % 2 == 0 ? x.keep() : x.again();
        }
    }
}
