import java.util.Random;

/** Promises 22 to 31: what is tried, by hand and against mills on which it is really done. */
public final class TriedTest {
    private static final Check check = new Check();

    public static void main(String[] args) {
        byHand();
        edgesByHand();
        throughByHand();
        hangByHand();
        for (int i = 0; i < 60; i++) againstDays(i);
        refusals();
        check.end();
    }

    private static void byHand() {
        IntentVats x = Check.told("cloth;");
        String before = Check.look(x);
        int[] depths = {0, 8, 2, 5, 3, 6, 3, 6};
        int[] abouts = {0, 1, 1, 3, 4, 5, 6, 1};
        for (int n = 0; n < 8; n++) {
            check.due("gone " + n, x.gone(0, n), abouts[n]);
            check.due("depth " + n, x.depth(0, n), depths[n]);
            check.due("spoilt " + n, x.spoilt(n), n == 0 ? 0 : 1);
        }
        int[] comes = {1, 8, 3, 4, 5, 6};
        for (int p = 0; p < 6; p++) check.due("comes " + p, x.comes(0, p), comes[p]);
        check.due("bare", x.bare(0), 0);
        check.same("nothing changes", Check.look(x), before);
    }

    private static void edgesByHand() {
        IntentVats x = Check.told("linen about 9 deep 60 hung; felt about 9 deep 60 hung; linen about 9 deep 61 hung; light 0;");
        check.due("comes now", x.comes(0, 9), 0);
        check.due("bare on the last day", x.bare(0), 60);
        check.due("never bare", x.bare(1), -3);
        check.due("bare too late", x.bare(2), -3);
        check.due("depth 60", x.depth(2, 60), 1);
        check.due("gone 59", x.gone(0, 59), 10);
        check.due("gone 60", x.gone(0, 60), 0);
        check.due("spoilt 59", x.spoilt(59), 0);
        check.due("spoilt 60", x.spoilt(60), 1);
        x = Check.told("cloth; cloth about 3 deep 2; light 0;");
        for (int r = 0; r < 6; r++) x.roster(r, -1);
        check.due("comes not", x.comes(0, 3), -3);
        x.days(1);
        x.roster(0, 3);
        check.due("comes", x.comes(0, 3), 6);
        check.due("vat for this rest", x.vatFor(1, 3), 3);
        check.due("the least of several", x.vatFor(4, 2), 0);
        check.due("kind for", x.kindFor(0, 6), 3);
        check.due("kind for: the least of several", x.kindFor(0, 2), 0);
        x = Check.told("cloth; cloth about 3 deep 10; strong 0 0; day 1 vat 0; mordant 0;");
        check.due("least strength", x.strengthFor(0, 0, 0, 1), 1);
        check.due("least strength", x.strengthFor(0, 1, 3, 1), 0);
        x.steep(1, 3, 6);
        check.due("least strength that turns it", x.strengthFor(0, 1, 0, 1), 8);
        check.due("no strength", x.strengthFor(1, 1, 0, 1), -3);
        x.steep(1, 3, 7);
        check.due("the most", x.strengthFor(0, 1, 0, 1), 9);
        x.steep(1, 3, 8);
        check.due("not by the most", x.strengthFor(0, 1, 0, 1), -3);
        check.due("strength of another vat", x.strengthFor(1, 1, 3, 1), 0);
    }

    private static void throughByHand() {
        IntentVats x = Check.told("cloth;");
        for (int p = 0; p < 8; p++) check.due("through one", x.through(0, p), 8 + p);
        check.due("none", x.through(0, 8), -3);
        x.steep(0, 3, 5);
        check.due("through none", x.through(0, 3), 1);
        check.due("through two", x.through(0, 5), 64 + 5);
        x.steep(0, 3, 9);
        check.due("through two", x.through(0, 5), 64 + 5);
        x.steep(0, 3, 10);
        check.due("through three", x.through(0, 5), 512 + 5);
        x.steep(0, 3, 14);
        check.due("by vats that are strong still", x.through(0, 5), 512 + 8 + 5);
        check.due("that one is used", x.through(0, 1), 512 + 2 * 8 + 1);
        x.steep(0, 3, 15);
        check.due("by no three", x.through(0, 5), -3);
        x.fill(6, 1, 9);
        check.due("by a strong one", x.through(0, 5), 512 + 6 * 8 + 5);
        x.hang(0, 1);
        check.due("hung", x.through(0, 5), 512 + 6 * 8 + 5);
        x.fill(2, 0, 5);
        check.due("the first vat of that purpose", x.through(0, 5), 512 + 6 * 8 + 2);
        check.due("strength stays", x.vatOf(6, 1), 9);
        check.due("dips stay", x.of(0, 4), 0);
    }

    private static void hangByHand() {
        IntentVats x = Check.told("cloth about 9 deep 2; cloth about 9 deep 2; cloth about 9 deep 50;");
        check.due("spoilt", x.spoilt(1), 2);
        check.due("two may", x.hangFor(1, 2), 0);
        check.due("one may, by what the others leave", x.hangFor(1, 1), -3);
        x = Check.told("cloth about 9 deep 3; cloth about 9 deep 3; cloth about 9 deep 50 hung;");
        check.due("spoilt", x.spoilt(1), 2);
        check.due("one may", x.hangFor(1, 1), 1);
        check.due("none may", x.hangFor(1, 0), 3);
        check.due("eight may", x.hangFor(30, 8), 0);
        check.due("none may in 30", x.hangFor(30, 0), -3);
        check.due("hung as before", x.state(2), 4);
        x = Check.told("cloth about 9 deep 5; cloth about 9 deep 5; cloth about 9 deep 2; light 1;");
        check.due("one of a higher number before two", x.hangFor(1, 1), 4);
        x = Check.told("cloth about 9 deep 9; cloth about 9 deep 9; cloth about 9 deep 1; cloth about 9 deep 1; light 0;");
        check.due("the least of one", x.hangFor(1, 1), 4);
        check.due("both", x.hangFor(1, 0), 12);
    }

    // ---- against mills on which it is really done ----

    private static IntentVats made(int seed) {
        Random r = new Random(seed);
        IntentVats x = new IntentVats();
        int count = 1 + r.nextInt(seed % 3 == 0 ? 8 : 4);
        for (int c = 0; c < count; c++) {
            x.cloth(r.nextInt(6));
            if (r.nextInt(4) > 0) x.steep(c, r.nextInt(10), 1 + r.nextInt(r.nextBoolean() ? 99 : 20));
            if (r.nextInt(3) == 0) x.hang(c, 1);
        }
        for (int law = 0; law < 3; law++) if (r.nextBoolean()) x.set(law, r.nextInt(10));
        for (int v = 0; v < 8; v++) {
            if (r.nextBoolean()) x.fill(v, 0, r.nextInt(10));
            if (r.nextBoolean()) x.fill(v, 1, r.nextInt(10));
        }
        for (int rest = 0; rest < 6; rest++) if (r.nextBoolean()) x.roster(rest, r.nextInt(9) - 1);
        int days = r.nextInt(8);
        if (days > 0) x.days(days);
        return x;
    }

    private static IntentVats passed(IntentVats x, int n) {
        if (n > 0) x.days(n);
        return x;
    }

    private static int spoilt(IntentVats from, IntentVats to) {
        int n = 0;
        for (int c = 0; c < from.many(0); c++) if (from.of(c, 1) != to.of(c, 1)) n++;
        return n;
    }

    private static void againstDays(int seed) {
        IntentVats x = made(seed);
        String before = Check.look(x);
        int count = x.many(0);
        Random r = new Random(~seed);
        for (int n : new int[] {0, 1, 2, 5, 17, 60}) {
            IntentVats y = passed(made(seed), n);
            for (int c = 0; c < count; c++) {
                check.due("gone", x.gone(c, n), y.of(c, 1));
                check.due("depth", x.depth(c, n), y.of(c, 2));
            }
            check.due("spoilt", x.spoilt(n), spoilt(x, y));
        }
        for (int k = 0; k < 3; k++) {
            int c = r.nextInt(count);
            int p = r.nextInt(10);
            check.due("comes", x.comes(c, p), first(seed, c, 1 + p));
            check.due("bare", x.bare(c), first(seed, c, 0));
            check.due("kind", x.kindFor(c, 1 + k * 13), kind(seed, c, 1 + k * 13));
            int rest = r.nextInt(6);
            check.due("vat", x.vatFor(rest, 1 + k * 19), vat(seed, rest, 1 + k * 19));
            int v = r.nextInt(8);
            int n = 1 + r.nextInt(40);
            check.due("strength", x.strengthFor(v, c, p, n), strength(seed, v, c, 1 + p, n));
            check.due("through", x.through(c, p), through(seed, c, 1 + p));
            int days = 1 + r.nextInt(30);
            int most = r.nextInt(count);
            check.due("hang", x.hangFor(days, most), hang(seed, days, most));
        }
        check.same("nothing changes", Check.look(x), before);
    }

    private static int first(int seed, int c, int told) {
        IntentVats y = made(seed);
        for (int n = 0; n <= 60; n++) {
            if (y.of(c, 1) == told) return n;
            y.days(1);
        }
        return -3;
    }

    private static int kind(int seed, int c, int n) {
        int best = 5;
        int deepest = -1;
        for (int k = 5; k >= 0; k--) {
            IntentVats y = made(seed);
            y.mind(c, k);
            y.days(n);
            if (y.of(c, 2) >= deepest) {
                deepest = y.of(c, 2);
                best = k;
            }
        }
        return best;
    }

    private static int vat(int seed, int rest, int n) {
        int best = 7;
        int deepest = -1;
        for (int v = 7; v >= 0; v--) {
            IntentVats y = made(seed);
            y.roster(rest, v);
            int deep = y.days(n);
            if (deep >= deepest) {
                deepest = deep;
                best = v;
            }
        }
        return best;
    }

    private static int strength(int seed, int v, int c, int told, int n) {
        int least = -3;
        for (int s = 9; s >= 0; s--) {
            IntentVats y = made(seed);
            y.fill(v, 1, s);
            y.days(n);
            if (y.of(c, 1) == told) least = s;
        }
        return least;
    }

    private static int through(int seed, int c, int told) {
        if (made(seed).of(c, 1) == told) return 1;
        for (int way = 8; way < 4096; way++) {
            int length = way < 64 ? 1 : way < 512 ? 2 : 3;
            if (way >= 16 && length == 1 || way >= 128 && length == 2 || way >= 1024) continue;
            IntentVats y = made(seed);
            for (int i = length - 1; i >= 0; i--) y.dip(c, (way >> (3 * i)) & 7);
            if (y.of(c, 1) == told) return way;
        }
        return -3;
    }

    private static int hang(int seed, int n, int most) {
        IntentVats x = made(seed);
        int best = -3;
        for (int set = 0; set < 1 << x.many(0); set++) {
            IntentVats y = made(seed);
            for (int c = 0; c < x.many(0); c++) y.hang(c, (set >> c) & 1);
            y.days(n);
            boolean fewer = best < 0 || Integer.bitCount(set) < Integer.bitCount(best);
            if (spoilt(x, y) <= most && fewer) best = set;
        }
        return best;
    }

    private static void refusals() {
        IntentVats x = Check.told("cloth; felt about 3;");
        String before = Check.look(x);
        for (int c : new int[] {-1, 2, Integer.MAX_VALUE}) {
            check.due("gone", x.gone(c, 1), -1);
            check.due("depth", x.depth(c, 1), -1);
            check.due("comes", x.comes(c, 1), -1);
            check.due("bare", x.bare(c), -1);
            check.due("through", x.through(c, 1), -1);
            check.due("kindFor", x.kindFor(c, 1), -1);
            check.due("strengthFor", x.strengthFor(0, c, 1, 1), -1);
        }
        for (int n : new int[] {-1, 61, Integer.MIN_VALUE}) {
            check.due("gone", x.gone(0, n), -1);
            check.due("depth", x.depth(0, n), -1);
            check.due("spoilt", x.spoilt(n), -1);
        }
        for (int p : new int[] {-1, 10}) {
            check.due("comes", x.comes(0, p), -1);
            check.due("through", x.through(0, p), -1);
            check.due("strengthFor", x.strengthFor(0, 0, p, 1), -1);
        }
        for (int n : new int[] {-1, 0, 41}) {
            check.due("vatFor", x.vatFor(0, n), -1);
            check.due("kindFor", x.kindFor(0, n), -1);
            check.due("strengthFor", x.strengthFor(0, 0, 1, n), -1);
        }
        check.due("vatFor", x.vatFor(-1, 1), -1);
        check.due("vatFor", x.vatFor(6, 1), -1);
        check.due("strengthFor", x.strengthFor(-1, 0, 1, 1), -1);
        check.due("strengthFor", x.strengthFor(8, 0, 1, 1), -1);
        check.due("hangFor", x.hangFor(0, 1), -1);
        check.due("hangFor", x.hangFor(31, 1), -1);
        check.due("hangFor", x.hangFor(1, -1), -1);
        check.due("hangFor", x.hangFor(1, 9), -1);
        check.same("nothing changes", Check.look(x), before);
        check.due("vatFor of 40", x.vatFor(5, 40) >= 0 ? 1 : 0, 1);
        check.due("kindFor of 40", x.kindFor(1, 40) >= 0 ? 1 : 0, 1);
        check.due("strengthFor of 40", x.strengthFor(7, 1, 9, 40), -3);
        check.due("no cloths", new IntentVats().hangFor(30, 0), 0);
        check.due("no cloths", new IntentVats().vatFor(5, 40), 0);
        check.due("no cloths", new IntentVats().bare(0), -1);
    }
}
