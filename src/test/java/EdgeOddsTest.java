/** The boundaries of promises 32 to 34, a method for each sentence: what fits, chances, hope. */
public final class EdgeOddsTest {
    private static final Check check = new Check();
    private static final int MOST = Integer.MAX_VALUE;
    private static final int LEAST = Integer.MIN_VALUE;

    public static void main(String[] args) {
        fitsEmptySheet();
        fitsAny();
        fitsByteOfAny();
        fitsNothingAlone();
        fitsNothingNot();
        fitsNone();
        fitsForty();
        fitsOneByOne();
        fitsLeastAndMost();
        fitsOfAllSorts();
        fitsMissing();
        fitsOutside();
        fitsBadFirst();
        fitsChangesNothing();
        oddsNone();
        oddsAll();
        oddsSlipRange();
        oddsCommonDivisor();
        oddsZero();
        oddsOutside();
        hopeRange();
        hopeZero();
        hopeOutside();
        check.end();
    }

    private static IntentVats with(String text, int sort, int... numbers) {
        IntentVats x = Check.told(text);
        x.sheet(1, sort, numbers.length);
        for (int i = 0; i < numbers.length; i++) x.put(1, i, numbers[i]);
        return x;
    }

    private static void fits(IntentVats x, int cloth, int many, int least) {
        check.due("how many", x.fits(1, cloth, 0), many);
        check.due("the least", x.fits(1, cloth, 1), least);
    }

    private static void fitsEmptySheet() {
        check.sentence("FITS by a SHEET of no numbers");
        fits(with("cloth about 6;", 0), 0, 10, 1);
        fits(with("cloth;", 0), 0, 1, 0);
    }

    private static void fitsAny() {
        check.sentence("FITS: (-1: any)");
        fits(with("cloth about 6;", 1, -1, -1), 0, 10, 1);
        fits(with("cloth about 6 deep 3;", 1, -1, -1, 2), 0, 1, 1);
        fits(with("cloth about 6 deep 3;", 1, -1, -1, 3), 0, 9, 2);
        fits(with("cloth about 6;", 1, -2), 0, 0, -3);
    }

    private static void fitsByteOfAny() {
        check.sentence("FITS: numbers narrowed to their sort");
        fits(with("cloth about 6;", 0, 255), 0, 10, 1);
        fits(with("cloth about 6;", 1, 255), 0, 0, -3);
        fits(with("cloth about 6;", 1, 65535), 0, 10, 1);
        fits(with("cloth about 6;", 2, 65535), 0, 0, -3);
    }

    private static void fitsNothingAlone() {
        check.sentence("FITS: of one that is 0 DEEP: nothing alone, told as 0");
        fits(with("cloth;", 3, 8), 0, 1, 0);
        fits(with("cloth hung;", 3, 0, 0, 0), 0, 1, 0);
    }

    private static void fitsNothingNot() {
        check.sentence("FITS: of one that is 0 DEEP, what doesn't fit");
        fits(with("cloth;", 3, 7), 0, 0, -3);
        fits(with("cloth hung;", 3, 0, 0, 1), 0, 0, -3);
    }

    private static void fitsNone() {
        check.sentence("32: NONE (what 1): none");
        check.due("how many is 0", with("cloth about 6;", 2, 99).fits(1, 0, 0), 0);
        check.refusedBy(() -> with("cloth about 6;", 2, 99), "the least", x -> x.fits(1, 0, 1), -3);
    }

    private static void fitsForty() {
        check.sentence("FITS: all the numbers of the SHEET, 40 at most");
        int[] depths = new int[40];
        java.util.Arrays.fill(depths, 20);
        fits(with("felt about 6 hung;", 2, depths), 0, 10, 1);
        depths[39] = 21;
        fits(with("felt about 6 hung;", 2, depths), 0, 0, -3);
        depths[39] = 20;
        depths[0] = 19;
        fits(with("felt about 6 hung;", 2, depths), 0, 0, -3);
    }

    private static void fitsOneByOne() {
        check.sentence("FITS: behind 1, 2, .. DAYS");
        fits(with("cloth about 6 hung;", 2, 18, 16, 14), 0, 10, 1);
        fits(with("cloth about 6 hung;", 2, 20, 18, 16), 0, 0, -3);
        fits(with("cloth about 6 deep 1 hung;", 2, 0, 0), 0, 10, 1);
    }

    private static void fitsLeastAndMost() {
        check.sentence("FITS: PURPOSES 0 to 9 (told as 1 and each)");
        fits(with("cloth about 6; vat 0 of 9;", 2, 28), 0, 1, 10);
        fits(with("cloth about 6; vat 0 of 0;", 2, 28), 0, 1, 1);
        fits(with("cloth about 6; vat 0 of 0;", 2, 15), 0, 9, 2);
        fits(with("cloth about 6; vat 0 of 9;", 2, 15), 0, 9, 1);
    }

    private static void fitsOfAllSorts() {
        check.sentence("FITS: the numbers of a SHEET of any sort");
        for (int sort = 0; sort < 4; sort++) fits(with("cloth about 6;", sort, 28, 26), 0, 0, -3);
        for (int sort = 0; sort < 4; sort++) fits(with("cloth about 6;", sort, 28, 22), 0, 1, 1);
    }

    private static void fitsMissing() {
        check.sentence("32: -11: the SHEET is missing");
        for (int what = 0; what < 2; what++) {
            int w = what;
            check.refused("fits(3, 0, " + w + ")", x -> x.fits(3, 0, w), -11);
        }
    }

    private static void fitsOutside() {
        check.sentence("32: BAD: no such SHEET, one, what");
        for (int s : new int[] {-1, 4, MOST, LEAST}) check.bad("fits(" + s + ", 0, 0)", x -> x.fits(s, 0, 0));
        for (int c : new int[] {-1, 4, 8, MOST, LEAST}) check.bad("fits(0, " + c + ", 0)", x -> x.fits(0, c, 0));
        for (int w : new int[] {-1, 2, MOST, LEAST}) check.bad("fits(0, 0, " + w + ")", x -> x.fits(0, 0, w));
    }

    private static void fitsBadFirst() {
        check.sentence("of several the first named: BAD, -11 (fits)");
        check.bad("no such one, missing", x -> x.fits(3, 4, 0));
        check.bad("no such what, missing", x -> x.fits(3, 0, 2));
    }

    private static void fitsChangesNothing() {
        check.sentence("FITS: TRIED; nothing changes");
        IntentVats x = Check.busy();
        long many = x.fits(0, 0, 0);
        long least = x.fits(2, 1, 1);
        check.refused("fits(0, 0, 0)", y -> y.fits(0, 0, 0), many);
        check.refused("fits(2, 1, 1)", y -> y.fits(2, 1, 1), least);
    }

    private static void chance(IntentVats x, int n, int k, long above, long below) {
        check.due("above of " + n + ", " + k, x.odds(n, k, 0), above);
        check.due("below of " + n + ", " + k, x.odds(n, k, 1), below);
    }

    private static void oddsNone() {
        check.sentence("33: n (0 ..), k (0 ..)");
        IntentVats x = new IntentVats();
        chance(x, 0, 0, 1, 1);
        chance(x, 1, 0, 4, 5);
        chance(x, 8, 0, 65536, 390625);
    }

    private static void oddsAll() {
        check.sentence("33: n (.. 8), k (.. n)");
        IntentVats x = new IntentVats();
        chance(x, 1, 1, 1, 5);
        chance(x, 8, 8, 1, 390625);
        chance(x, 8, 7, 32, 390625);
        x.set(3, 50);
        chance(x, 8, 4, 35, 128);
    }

    private static void oddsSlipRange() {
        check.sentence("CHANCES by SLIP 0 and 99");
        IntentVats x = new IntentVats();
        x.set(3, 0);
        chance(x, 8, 0, 1, 1);
        chance(x, 8, 8, 0, 1);
        x.set(3, 99);
        chance(x, 8, 0, 1, 10000000000000000L);
        chance(x, 8, 8, 9227446944279201L, 10000000000000000L);
        chance(x, 8, 7, 93206534790699L, 1250000000000000L);
    }

    private static void oddsCommonDivisor() {
        check.sentence("A part of a fraction: without a common divisor");
        IntentVats x = new IntentVats();
        x.set(3, 50);
        chance(x, 2, 1, 1, 2);
        chance(x, 4, 2, 3, 8);
        x.set(3, 25);
        chance(x, 3, 1, 27, 64);
        x.set(3, 99);
        chance(x, 2, 1, 99, 5000);
    }

    private static void oddsZero() {
        check.sentence("A part of a fraction: (0 is 0 by 1)");
        IntentVats x = new IntentVats();
        x.set(3, 0);
        for (int k = 1; k <= 8; k++) chance(x, 8, k, 0, 1);
    }

    private static void oddsOutside() {
        check.sentence("33: BAD, n, k or part outside");
        for (int n : new int[] {-1, 9, MOST, LEAST}) check.bad("odds(" + n + ", 0, 0)", x -> x.odds(n, 0, 0));
        for (int k : new int[] {-1, 6, 8, MOST, LEAST}) check.bad("odds(5, " + k + ", 0)", x -> x.odds(5, k, 0));
        check.bad("odds(0, 1, 0)", x -> x.odds(0, 1, 0));
        check.bad("odds(9, 9, 0)", x -> x.odds(9, 9, 0));
        check.bad("odds(-1, -1, 0)", x -> x.odds(-1, -1, 0));
        for (int part : new int[] {-1, 2, MOST, LEAST}) check.bad("odds(5, 1, " + part + ")", x -> x.odds(5, 1, part));
    }

    private static void mean(IntentVats x, int n, long above, long below) {
        check.due("above of " + n, x.hope(n, 0), above);
        check.due("below of " + n, x.hope(n, 1), below);
    }

    private static void hopeRange() {
        check.sentence("34: HOPE by n (0 to 99)");
        IntentVats x = new IntentVats();
        mean(x, 1, 1, 5);
        mean(x, 5, 1, 1);
        mean(x, 99, 99, 5);
        x.set(3, 99);
        mean(x, 99, 9801, 100);
        mean(x, 50, 99, 2);
    }

    private static void hopeZero() {
        check.sentence("34: HOPE of none, by SLIP 0: 0 by 1");
        IntentVats x = new IntentVats();
        mean(x, 0, 0, 1);
        x.set(3, 0);
        mean(x, 99, 0, 1);
        mean(x, 0, 0, 1);
    }

    private static void hopeOutside() {
        check.sentence("34: BAD, n or part outside");
        for (int n : new int[] {-1, 100, MOST, LEAST}) check.bad("hope(" + n + ", 0)", x -> x.hope(n, 0));
        for (int part : new int[] {-1, 2, MOST, LEAST}) check.bad("hope(5, " + part + ")", x -> x.hope(5, part));
    }
}
