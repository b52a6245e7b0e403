/** Promise 32: which purposes fit depths that were seen. */
public final class FitsTest {
    private static final Check check = new Check();

    public static void main(String[] args) {
        byHand();
        nothing();
        againstDays();
        refusals();
        check.end();
    }

    private static void sheetOf(IntentVats x, int sort, int... depths) {
        x.sheet(2, sort, depths.length);
        for (int i = 0; i < depths.length; i++) x.put(2, i, depths[i]);
    }

    private static void fits(String what, IntentVats x, int cloth, int many, int least) {
        check.due("how many: " + what, x.fits(2, cloth, 0), many);
        check.due("the least: " + what, x.fits(2, cloth, 1), least);
    }

    private static void byHand() {
        IntentVats x = Check.told("cloth about 6 deep 12; cloth; day 1 vat 0;");
        sheetOf(x, 1);
        fits("no days", x, 0, 10, 1);
        sheetOf(x, 0, 20);
        fits("took 8", x, 0, 1, 1);
        sheetOf(x, 3, 7);
        fits("fought 5", x, 0, 9, 2);
        sheetOf(x, 2, 7, 3);
        fits("fought 5 and 4", x, 0, 9, 2);
        sheetOf(x, 2, -1, 3, 2);
        fits("then 6, of vat 2", x, 0, 0, -3);
        sheetOf(x, 2, -1, 3, 4);
        fits("turned by vat 2", x, 0, 8, 2);
        sheetOf(x, 2, -1, -1, 13);
        fits("took in vat 2", x, 0, 1, 3);
        sheetOf(x, 0, -1, -1, -1);
        fits("any", x, 0, 10, 1);
        sheetOf(x, 0, -2);
        fits("no such depth", x, 0, 0, -3);
        check.same("nothing changes", Check.cloths(x), "0/7/12/0/0 0/0/0/0/0");
    }

    private static void nothing() {
        IntentVats x = Check.told("cloth about 6 deep 12; cloth;");
        sheetOf(x, 1);
        fits("nothing, of no days", x, 1, 1, 0);
        sheetOf(x, 1, 7);
        fits("nothing takes 7", x, 1, 1, 0);
        sheetOf(x, 1, 8);
        fits("nothing does not take 8", x, 1, 0, -3);
    }

    private static IntentVats made(int seed) {
        IntentVats x = Check.told("wool about 3 deep 25; linen about 1 deep 30; shroud about 4 hung; felt;");
        for (int v = 0; v < 8; v++) {
            x.fill(v, 0, (v * 7 + seed) % 10);
            x.fill(v, 1, (v * 3 + seed) % 10);
        }
        return x;
    }

    private static void againstDays() {
        for (int seed = 0; seed < 20; seed++) {
            int cloth = seed % 3;
            IntentVats seen = made(seed);
            seen.steep(cloth, seed % 10, seen.of(cloth, 2));
            int[] depths = new int[1 + seed];
            for (int i = 0; i < depths.length; i++) {
                seen.days(1);
                depths[i] = i % 4 == 2 ? -1 : seen.of(cloth, 2);
            }
            int many = 0;
            int least = -3;
            for (int p = 9; p >= 0; p--) {
                IntentVats y = made(seed);
                y.steep(cloth, p, y.of(cloth, 2));
                boolean right = true;
                for (int d : depths) {
                    y.days(1);
                    right &= d == -1 || d == y.of(cloth, 2);
                }
                if (right) {
                    many++;
                    least = 1 + p;
                }
            }
            IntentVats x = made(seed);
            sheetOf(x, seed % 4, depths);
            fits("seed " + seed, x, cloth, many, least);
        }
    }

    private static void refusals() {
        IntentVats x = Check.told("cloth about 6 deep 12;");
        sheetOf(x, 0, 1, 2);
        String before = Check.look(x);
        check.due("sheet -1", x.fits(-1, 0, 0), -1);
        check.due("sheet 4", x.fits(4, 0, 0), -1);
        check.due("cloth 1", x.fits(2, 1, 0), -1);
        check.due("cloth -1", x.fits(2, -1, 0), -1);
        check.due("what 2", x.fits(2, 0, 2), -1);
        check.due("what -1", x.fits(2, 0, -1), -1);
        check.due("missing", x.fits(1, 0, 0), -11);
        check.due("bad before missing", x.fits(1, 1, 0), -1);
        check.due("bad before missing", x.fits(1, 0, 2), -1);
        check.same("nothing changes", Check.look(x), before);
    }
}
