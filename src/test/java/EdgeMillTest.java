/** The boundaries of promises 1 and 4 to 9, a method for each sentence: a new object, laws, vats, the roster. */
public final class EdgeMillTest {
    private static final Check check = new Check();
    private static final int MOST = Integer.MAX_VALUE;
    private static final int LEAST = Integer.MIN_VALUE;

    public static void main(String[] args) {
        newObject();
        nothingIsKept();
        lawsAtFirst();
        lawsLeast();
        lawsMost();
        lawsTooSmall();
        lawsTooLarge();
        noSuchLaw();
        noSuchLawAsked();
        purposesAtFirst();
        strengthsAtFirst();
        purposeRange();
        purposeOutside();
        strengthRange();
        strengthOutside();
        vatsRange();
        noSuchVat();
        noSuchVatAsked();
        noSuchWhatOfVat();
        noSuchWhatAsked();
        rosterAtFirst();
        rosterNone();
        rosterMost();
        rosterVatOutside();
        rosterRestOutside();
        rosterOfRange();
        rosterOfOutside();
        dayBySix();
        fiveHundredTwelve();
        check.end();
    }

    private static void newObject() {
        check.sentence("1: No CLOTHS");
        IntentVats x = new IntentVats();
        check.due("many(0)", x.many(0), 0);
        check.due("of(0, 0)", x.of(0, 0), -1);
        check.due("gone(0, 0)", x.gone(0, 0), -1);
        check.due("the first one", x.cloth(5), 0);
    }

    private static void nothingIsKept() {
        check.sentence("1: nothing is kept");
        check.refusedBy(IntentVats::new, "again()", x -> x.again(), -3);
    }

    private static void lawsAtFirst() {
        check.sentence("LAWS: 3, 2, 4, 20 at first");
        check.same("laws", Check.laws(new IntentVats()), "3 2 4 20");
    }

    private static void lawsLeast() {
        check.sentence("LAWS: 0 is the least");
        IntentVats x = new IntentVats();
        int[] first = {3, 2, 4, 20};
        for (int law = 0; law < 4; law++) check.due("set(" + law + ", 0)", x.set(law, 0), first[law]);
        check.same("laws", Check.laws(x), "0 0 0 0");
    }

    private static void lawsMost() {
        check.sentence("LAWS: 9 is the most, of SLIP 99");
        IntentVats x = new IntentVats();
        int[] first = {3, 2, 4, 20};
        for (int law = 0; law < 4; law++) check.due("set " + law, x.set(law, law == 3 ? 99 : 9), first[law]);
        check.same("laws", Check.laws(x), "9 9 9 99");
        for (int law = 0; law < 4; law++) check.due("set again " + law, x.set(law, law), law == 3 ? 99 : 9);
        check.same("laws", Check.laws(x), "0 1 2 3");
    }

    private static void lawsTooSmall() {
        check.sentence("4: BAD, below 0");
        for (int law = 0; law < 4; law++) {
            int l = law;
            check.bad("set(" + l + ", -1)", x -> x.set(l, -1));
            check.bad("set(" + l + ", least)", x -> x.set(l, LEAST));
        }
    }

    private static void lawsTooLarge() {
        check.sentence("4: BAD, above 9 (SLIP: 99)");
        for (int law = 0; law < 4; law++) {
            int l = law;
            check.bad("set(" + l + ", above)", x -> x.set(l, l == 3 ? 100 : 10));
            check.bad("set(" + l + ", most)", x -> x.set(l, MOST));
        }
    }

    private static void noSuchLaw() {
        check.sentence("4: BAD, no such LAW");
        for (int law : new int[] {-1, 4, MOST, LEAST}) check.bad("set(" + law + ", 1)", x -> x.set(law, 1));
    }

    private static void noSuchLawAsked() {
        check.sentence("5: BAD, no such LAW");
        for (int law : new int[] {-1, 4, MOST, LEAST}) check.bad("lawOf(" + law + ")", x -> x.lawOf(law));
    }

    private static void purposesAtFirst() {
        check.sentence("PURPOSE of vat i at first i");
        IntentVats x = new IntentVats();
        for (int vat = 0; vat < 8; vat++) check.due("vatOf(" + vat + ", 0)", x.vatOf(vat, 0), vat);
    }

    private static void strengthsAtFirst() {
        check.sentence("STRENGTH 5 at first");
        IntentVats x = new IntentVats();
        for (int vat = 0; vat < 8; vat++) check.due("vatOf(" + vat + ", 1)", x.vatOf(vat, 1), 5);
    }

    private static void purposeRange() {
        check.sentence("6: PURPOSE becomes v (0 to 9)");
        IntentVats x = new IntentVats();
        check.due("fill to 9", x.fill(3, 0, 9), 3);
        check.due("9", x.vatOf(3, 0), 9);
        check.due("fill to 0", x.fill(3, 0, 0), 9);
        check.due("0", x.vatOf(3, 0), 0);
        check.due("strength stays", x.vatOf(3, 1), 5);
    }

    private static void purposeOutside() {
        check.sentence("6: BAD, a PURPOSE below 0, above 9");
        for (int v : new int[] {-1, 10, MOST, LEAST}) check.bad("fill(3, 0, " + v + ")", x -> x.fill(3, 0, v));
    }

    private static void strengthRange() {
        check.sentence("6: STRENGTH becomes v (0 to 9)");
        IntentVats x = new IntentVats();
        check.due("fill to 9", x.fill(3, 1, 9), 5);
        check.due("9", x.vatOf(3, 1), 9);
        check.due("fill to 0", x.fill(3, 1, 0), 9);
        check.due("0", x.vatOf(3, 1), 0);
        check.due("purpose stays", x.vatOf(3, 0), 3);
    }

    private static void strengthOutside() {
        check.sentence("6: BAD, a STRENGTH below 0, above 9");
        for (int v : new int[] {-1, 10, MOST, LEAST}) check.bad("fill(3, 1, " + v + ")", x -> x.fill(3, 1, v));
    }

    private static void vatsRange() {
        check.sentence("VATS 0 to 7");
        IntentVats x = new IntentVats();
        check.due("the first", x.fill(0, 0, 8), 0);
        check.due("the last", x.fill(7, 0, 9), 7);
        check.due("the last", x.fill(7, 1, 1), 5);
        check.same("vats", Check.vats(x), "8/5 1/5 2/5 3/5 4/5 5/5 6/5 9/1");
    }

    private static void noSuchVat() {
        check.sentence("6: BAD, no such VAT");
        for (int vat : new int[] {-1, 8, MOST, LEAST}) {
            for (int what = 0; what < 2; what++) {
                int w = what;
                check.bad("fill(" + vat + ", " + w + ", 1)", x -> x.fill(vat, w, 1));
            }
        }
    }

    private static void noSuchVatAsked() {
        check.sentence("7: BAD, no such VAT");
        for (int vat : new int[] {-1, 8, MOST, LEAST}) check.bad("vatOf(" + vat + ", 0)", x -> x.vatOf(vat, 0));
    }

    private static void noSuchWhatOfVat() {
        check.sentence("6: BAD, another what");
        for (int what : new int[] {-1, 2, MOST, LEAST}) check.bad("fill(1, " + what + ", 1)", x -> x.fill(1, what, 1));
    }

    private static void noSuchWhatAsked() {
        check.sentence("7: BAD, another what");
        for (int what : new int[] {-1, 2, MOST, LEAST}) check.bad("vatOf(1, " + what + ")", x -> x.vatOf(1, what));
    }

    private static void rosterAtFirst() {
        check.sentence("THE ROSTER: at first the VAT of that number");
        check.same("roster", Check.rosters(new IntentVats()), "123456");
    }

    private static void rosterNone() {
        check.sentence("8, 9: -1: none; 0: none");
        IntentVats x = new IntentVats();
        check.due("roster(2, -1)", x.roster(2, -1), 3);
        check.due("rosterOf(2)", x.rosterOf(2), 0);
        check.due("what it was", x.roster(2, -1), 0);
        check.due("what it was", x.roster(2, 0), 0);
        check.due("vat 0 is another than none", x.rosterOf(2), 1);
        check.same("the others", Check.rosters(x), "121456");
    }

    private static void rosterMost() {
        check.sentence("8: a VAT (0 to 7)");
        IntentVats x = new IntentVats();
        check.due("roster(5, 7)", x.roster(5, 7), 6);
        check.due("roster(5, 0)", x.roster(5, 0), 8);
        check.due("rosterOf(5)", x.rosterOf(5), 1);
    }

    private static void rosterVatOutside() {
        check.sentence("8: BAD, no such VAT");
        for (int vat : new int[] {-2, 8, MOST, LEAST}) check.bad("roster(1, " + vat + ")", x -> x.roster(1, vat));
    }

    private static void rosterRestOutside() {
        check.sentence("8: BAD, no such rest");
        for (int rest : new int[] {-1, 6, MOST, LEAST}) {
            check.bad("roster(" + rest + ", 1)", x -> x.roster(rest, 1));
            check.bad("roster(" + rest + ", -1)", x -> x.roster(rest, -1));
        }
    }

    private static void rosterOfRange() {
        check.sentence("9: a rest 0 to 5");
        IntentVats x = new IntentVats();
        check.due("the first", x.rosterOf(0), 1);
        check.due("the last", x.rosterOf(5), 6);
    }

    private static void rosterOfOutside() {
        check.sentence("9: BAD, no such rest");
        for (int rest : new int[] {-1, 6, MOST, LEAST}) check.bad("rosterOf(" + rest + ")", x -> x.rosterOf(rest));
    }

    private static void dayBySix() {
        check.sentence("each rest 0 to 5 of DAY by 6");
        IntentVats x = new IntentVats();
        for (int day = 0; day < 14; day++) {
            check.due("day", x.state(0), day);
            check.due("vat of day " + day, x.state(1), 1 + day % 6);
            x.days(1);
        }
    }

    private static void fiveHundredTwelve() {
        check.sentence("An object is used for at most 512 calls");
        IntentVats x = new IntentVats();
        check.due("the first", x.cloth(3), 0);
        for (int i = 2; i <= 510; i++) check.due("call " + i, x.hang(0, i % 2), i == 2 ? 0 : (i - 1) % 2);
        check.due("the 511th", x.dip(0, 6), 7);
        check.due("the 512th", x.of(0, 2), 22);
    }
}
