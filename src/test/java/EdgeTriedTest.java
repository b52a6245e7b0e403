/** The boundaries of promises 22 to 31, a method for each sentence: what is tried. */
public final class EdgeTriedTest {
    private static final Check check = new Check();
    private static final int MOST = Integer.MAX_VALUE;
    private static final int LEAST = Integer.MIN_VALUE;
    private static final int[] NO_CLOTHS = {-1, 4, 8, MOST, LEAST};
    private static final int[] NO_PURPOSES = {-1, 10, MOST, LEAST};
    private static final int[] NO_60 = {-1, 61, MOST, LEAST};
    private static final int[] NO_40 = {0, -1, 41, MOST, LEAST};

    public static void main(String[] args) {
        nothingChanges();
        goneNow();
        goneSixty();
        goneOutside();
        depthNow();
        depthSixty();
        depthOutside();
        comesNow();
        comesSixty();
        comesNone();
        comesFirst();
        comesOutside();
        bareNow();
        bareSixty();
        bareNone();
        bareOutside();
        spoiltNow();
        spoiltSixty();
        spoiltNothingToo();
        spoiltOutside();
        throughNone();
        throughOne();
        throughTwo();
        throughThree();
        throughByNoThree();
        throughTheFirst();
        throughOutside();
        vatForLeast();
        vatForGreatest();
        vatForRests();
        vatForForty();
        vatForOutside();
        kindForLeast();
        kindForGreatest();
        kindForItsOwn();
        kindForForty();
        kindForOutside();
        strengthForLeast();
        strengthForMost();
        strengthForNone();
        strengthForForty();
        strengthForOutside();
        hangForNone();
        hangForAll();
        hangForFewest();
        hangForLeast();
        hangForNoOthers();
        hangForNoSet();
        hangForThirty();
        hangForNoCloths();
        hangForOutside();
        check.end();
    }

    /** Wool that fights 1 a day: about 9 for deep - 1 days, about nothing for one, then about 0. */
    private static IntentVats slow(int deep) {
        return Check.told("wool about 9 deep " + deep + "; quarrel 8; strong 0 9; day 1 vat 0; day 2 vat 0; day 3 vat 0; day 4 vat 0; day 5 vat 0;");
    }

    private static void nothingChanges() {
        check.sentence("What is asked here is TRIED; nothing changes.");
        IntentVats x = Check.busy();
        int[] due = {x.gone(1, 60), x.depth(0, 60), x.spoilt(60), x.through(0, 4), x.vatFor(2, 40), x.kindFor(3, 40),
            x.strengthFor(2, 0, 9, 40), x.hangFor(30, 2), x.comes(0, 5), x.bare(0)};
        check.refused("gone", y -> y.gone(1, 60), due[0]);
        check.refused("depth", y -> y.depth(0, 60), due[1]);
        check.refused("spoilt", y -> y.spoilt(60), due[2]);
        check.refused("through", y -> y.through(0, 4), due[3]);
        check.refused("vatFor", y -> y.vatFor(2, 40), due[4]);
        check.refused("kindFor", y -> y.kindFor(3, 40), due[5]);
        check.refused("strengthFor", y -> y.strengthFor(2, 0, 9, 40), due[6]);
        check.refused("hangFor", y -> y.hangFor(30, 2), due[7]);
        check.refused("comes", y -> y.comes(0, 5), due[8]);
        check.refused("bare", y -> y.bare(0), due[9]);
    }

    private static void goneNow() {
        check.sentence("22: GONE by n (0 ..)");
        check.due("about 9", slow(5).gone(0, 0), 10);
        check.due("nothing", Check.told("wool;").gone(0, 0), 0);
        check.due("about 0", Check.told("wool about 0;").gone(0, 0), 1);
    }

    private static void goneSixty() {
        check.sentence("22: GONE by n (.. 60)");
        check.due("behind 58", slow(59).gone(0, 58), 10);
        check.due("behind 59", slow(59).gone(0, 59), 0);
        check.due("behind 60", slow(59).gone(0, 60), 1);
        check.due("behind 60", slow(60).gone(0, 60), 0);
        check.due("behind 60", slow(61).gone(0, 60), 10);
    }

    private static void goneOutside() {
        check.sentence("22: BAD, no such one, n below 0, above 60");
        for (int c : NO_CLOTHS) check.bad("gone(" + c + ", 1)", x -> x.gone(c, 1));
        for (int n : NO_60) check.bad("gone(0, " + n + ")", x -> x.gone(0, n));
    }

    private static void depthNow() {
        check.sentence("23: DEPTH by n (0 ..)");
        check.due("5", slow(5).depth(0, 0), 5);
        check.due("0", Check.told("wool;").depth(0, 0), 0);
    }

    private static void depthSixty() {
        check.sentence("23: DEPTH by n (.. 60)");
        check.due("behind 59", slow(61).depth(0, 59), 2);
        check.due("behind 60", slow(61).depth(0, 60), 1);
        check.due("behind 60", slow(60).depth(0, 60), 0);
        check.due("behind 60", slow(59).depth(0, 60), 15);
    }

    private static void depthOutside() {
        check.sentence("23: BAD, no such one, n below 0, above 60");
        for (int c : NO_CLOTHS) check.bad("depth(" + c + ", 1)", x -> x.depth(c, 1));
        for (int n : NO_60) check.bad("depth(0, " + n + ")", x -> x.depth(0, n));
    }

    private static void comesNow() {
        check.sentence("COMES: behind the fewest DAYS (0 ..)");
        check.due("now", slow(5).comes(0, 9), 0);
        check.due("purpose 0, now", Check.told("wool about 0;").comes(0, 0), 0);
        check.due("purpose 0, of nothing", Check.told("wool;").comes(0, 0), 1);
    }

    private static void comesSixty() {
        check.sentence("COMES: behind the fewest DAYS (.. 60)");
        check.due("59", slow(58).comes(0, 0), 59);
        check.due("60", slow(59).comes(0, 0), 60);
    }

    private static void comesNone() {
        check.sentence("24: NONE: not by then");
        check.due("61", slow(60).comes(0, 0), -3);
        check.due("no VAT of it", Check.told("wool;").comes(0, 8), -3);
        check.refused("never", x -> x.comes(0, 8), -3);
    }

    private static void comesFirst() {
        check.sentence("COMES: it is ABOUT that first");
        IntentVats x = Check.told("cloth;");
        check.due("on day 1, also later", x.comes(0, 0), 1);
        check.due("not the first day of the vat, the first that it is about it", Check.told("cloth about 9 deep 6; mordant 0;").comes(0, 1), 2);
    }

    private static void comesOutside() {
        check.sentence("24: BAD, no such one, no such PURPOSE");
        for (int c : NO_CLOTHS) check.bad("comes(" + c + ", 1)", x -> x.comes(c, 1));
        for (int p : NO_PURPOSES) check.bad("comes(0, " + p + ")", x -> x.comes(0, p));
    }

    private static void bareNow() {
        check.sentence("BARE: behind the fewest (0 ..)");
        check.due("now", Check.told("wool;").bare(0), 0);
        check.due("1", slow(1).bare(0), 1);
    }

    private static void bareSixty() {
        check.sentence("BARE: behind the fewest (.. 60)");
        check.due("59", slow(59).bare(0), 59);
        check.due("60", slow(60).bare(0), 60);
    }

    private static void bareNone() {
        check.sentence("25: NONE: not by then");
        check.due("61", slow(61).bare(0), -3);
        check.refusedBy(() -> slow(61), "61", x -> x.bare(0), -3);
    }

    private static void bareOutside() {
        check.sentence("25: BAD, no such one");
        for (int c : NO_CLOTHS) check.bad("bare(" + c + ")", x -> x.bare(c));
    }

    private static void spoiltNow() {
        check.sentence("26: SPOILT by n (0 ..)");
        check.due("now", Check.told("wool; felt about 3;").spoilt(0), 0);
        check.due("without cloths", new IntentVats().spoilt(60), 0);
    }

    private static void spoiltSixty() {
        check.sentence("26: SPOILT by n (.. 60)");
        check.due("behind 59", slow(60).spoilt(59), 0);
        check.due("behind 60", slow(60).spoilt(60), 1);
        check.due("behind 60", slow(61).spoilt(60), 0);
    }

    private static void spoiltNothingToo() {
        check.sentence("SPOILT: ABOUT another one than now (nothing, too)");
        check.due("from nothing", Check.told("wool;").spoilt(1), 1);
        check.due("to nothing", slow(1).spoilt(1), 1);
        check.due("nothing stays", Check.told("wool hung;").spoilt(60), 0);
        check.due("it goes and comes again", Check.told("cloth about 0 deep 8;").spoilt(1), 0);
        check.due("all eight", Check.told("wool;wool;wool;wool;wool;wool;wool;wool;").spoilt(1), 8);
    }

    private static void spoiltOutside() {
        check.sentence("26: BAD, n below 0, above 60");
        for (int n : NO_60) check.bad("spoilt(" + n + ")", x -> x.spoilt(n));
    }

    private static void throughNone() {
        check.sentence("THROUGH: (1: none)");
        check.due("about it", Check.told("cloth about 9 deep 1;").through(0, 9), 1);
        check.due("about 0", Check.told("cloth about 0 deep 1;").through(0, 0), 1);
    }

    private static void throughOne() {
        check.sentence("THROUGH: (8 and v: VAT v)");
        IntentVats x = Check.told("cloth;");
        check.due("vat 0", x.through(0, 0), 8);
        check.due("vat 7", x.through(0, 7), 15);
    }

    private static void throughTwo() {
        check.sentence("THROUGH: (64 and 8 v and w)");
        IntentVats x = Check.told("cloth about 9 deep 5;");
        check.due("0, then 0", x.through(0, 0), 64);
        check.due("0, then 7", x.through(0, 7), 64 + 7);
        x = Check.told("cloth about 9 deep 9; strong 0 0; strong 1 0; strong 2 0; strong 3 0; strong 4 0; strong 5 0; strong 6 0;");
        check.due("by two it is about nothing", x.through(0, 7), 512 + 64 * 7 + 8 * 7 + 7);
        x.fill(7, 1, 6);
        check.due("7, then 7", x.through(0, 7), 64 + 8 * 7 + 7);
    }

    private static void throughThree() {
        check.sentence("THROUGH: (512 and 64 v and 8 w and u)");
        IntentVats x = Check.told("cloth about 9 deep 10;");
        check.due("0, 0, 0", x.through(0, 0), 512);
        check.due("0, 0, 7", x.through(0, 7), 512 + 7);
        x = Check.told("cloth about 9 deep 21; strong 0 0; strong 1 0; strong 2 0; strong 3 0; strong 4 0; strong 5 0; strong 6 0; strong 7 8;");
        check.due("7, 7, 7 leaves 0", x.through(0, 7), -3);
        x.steep(0, 9, 20);
        check.due("7, 7, 7", x.through(0, 7), 512 + 64 * 7 + 8 * 7 + 7);
    }

    private static void throughByNoThree() {
        check.sentence("27: NONE: by no three");
        check.refusedBy(() -> Check.told("cloth about 9 deep 15;"), "by no three", x -> x.through(0, 5), -3);
        check.due("three", Check.told("cloth about 9 deep 14;").through(0, 5), 512 + 8 + 5);
        check.due("no VAT of it", Check.told("cloth;").through(0, 8), -3);
    }

    private static void throughTheFirst() {
        check.sentence("THROUGH: of several the first by the numbers of the VATS");
        IntentVats x = Check.told("cloth about 9 deep 3; vat 6 of 2; vat 7 of 2;");
        check.due("one of three", x.through(0, 2), 8 + 2);
        x.fill(2, 0, 0);
        check.due("one of two", x.through(0, 2), 8 + 6);
        x.steep(0, 9, 6);
        check.due("two", x.through(0, 2), 64 + 0 * 8 + 6);
        x.fill(0, 1, 1);
        check.due("by 1 first", x.through(0, 2), 64 + 1 * 8 + 6);
    }

    private static void throughOutside() {
        check.sentence("27: BAD, no such one, no such PURPOSE");
        for (int c : NO_CLOTHS) check.bad("through(" + c + ", 1)", x -> x.through(c, 1));
        for (int p : NO_PURPOSES) check.bad("through(0, " + p + ")", x -> x.through(0, p));
    }

    private static void vatForLeast() {
        check.sentence("VAT FOR: of several the least");
        check.due("all alike", Check.told("cloth;").vatFor(0, 1), 0);
        check.due("all but the first", Check.told("cloth; strong 0 4;").vatFor(0, 1), 1);
        check.due("no cloths", new IntentVats().vatFor(0, 1), 0);
        check.due("all 0", Check.told("linen hung;").vatFor(0, 40), 0);
    }

    private static void vatForGreatest() {
        check.sentence("VAT FOR: makes DEPTHS of all together greatest");
        check.due("the strongest", Check.told("cloth; strong 7 6;").vatFor(0, 1), 7);
        check.due("that of all", Check.told("cloth about 3 deep 50; cloth about 4 deep 50; felt about 4 deep 10;").vatFor(0, 1), 4);
        IntentVats x = Check.told("cloth; strong 7 9;");
        x.roster(0, -1);
        check.due("were it on the ROSTER", x.vatFor(0, 1), 7);
        check.due("none is now", x.rosterOf(0), 0);
    }

    private static void vatForRests() {
        check.sentence("28: a rest (0 to 5)");
        IntentVats x = Check.told("cloth hung; cloth; vat 6 of 5; strong 6 9; mordant 0;");
        for (int rest = 0; rest < 6; rest++) x.roster(rest, -1);
        check.due("rest 0, of today", x.vatFor(0, 1), 6);
        check.due("rest 5, not today", x.vatFor(5, 5), 0);
        x.fill(3, 1, 0);
        check.due("rest 5 on the sixth", x.vatFor(5, 6), 0);
        x.fill(6, 1, 9);
        for (int vat = 0; vat < 8; vat++) if (vat != 6) x.fill(vat, 1, 0);
        check.due("rest 5 on the sixth", x.vatFor(5, 6), 6);
        check.due("rest 5 not by the fifth", x.vatFor(5, 5), 0);
    }

    private static void vatForForty() {
        check.sentence("28: n (1 to 40)");
        IntentVats x = Check.told("felt; wool about 2; light 5; quarrel 2;");
        for (int n : new int[] {1, 2, 39, 40}) {
            int best = 0;
            int deepest = -1;
            for (int vat = 0; vat < 8; vat++) {
                IntentVats y = Check.told("felt; wool about 2; light 5; quarrel 2;");
                y.roster(3, vat);
                int deep = y.days(n);
                if (deep > deepest) best = vat;
                deepest = Math.max(deep, deepest);
            }
            check.due("vatFor(3, " + n + ")", x.vatFor(3, n), best);
        }
    }

    private static void vatForOutside() {
        check.sentence("28: BAD, no such rest, n below 1, above 40");
        for (int rest : new int[] {-1, 6, MOST, LEAST}) check.bad("vatFor(" + rest + ", 1)", x -> x.vatFor(rest, 1));
        for (int n : NO_40) check.bad("vatFor(0, " + n + ")", x -> x.vatFor(0, n));
    }

    private static void kindForLeast() {
        check.sentence("KIND FOR: of several the least");
        check.due("all alike", Check.told("shroud hung;").kindFor(0, 40), 0);
        check.due("wool and felt", Check.told("shroud about 3 deep 50 hung; light 1;").kindFor(0, 40), 1);
        String text = "felt about 9 deep 13; mordant 0; light 0; quarrel 8; strong 0 9; strong 1 9;";
        check.due("linen and shroud, 13 each", Check.told(text).kindFor(0, 2), 2);
    }

    private static void kindForGreatest() {
        check.sentence("KIND FOR: its own DEPTH by n is greatest");
        check.due("felt", Check.told("muslin about 3 deep 50 hung; light 2;").kindFor(0, 1), 3);
        check.due("wool", Check.told("muslin about 3 deep 50 hung; light 0;").kindFor(0, 1), 1);
        check.due("shroud", Check.told("cloth; light 0; quarrel 9; mordant 0; strong 0 0;").kindFor(0, 1), 4);
        check.due("shroud, turned", Check.told("cloth about 9 deep 9; quarrel 9; mordant 9; strong 0 9;").kindFor(0, 1), 4);
        check.due("muslin: 4, 1, then 3 of another", Check.told("cloth about 9 deep 4; quarrel 0; mordant 0; strong 0 2; strong 1 2;").kindFor(0, 2), 5);
    }

    private static void kindForItsOwn() {
        check.sentence("KIND FOR: its own DEPTH, of no others");
        IntentVats x = Check.told("cloth; felt about 1 deep 99; mordant 0; strong 0 5;");
        check.due("felt: twice 8", x.kindFor(0, 1), 3);
        check.due("it is cloth as before", x.of(0, 0), 0);
    }

    private static void kindForForty() {
        check.sentence("29: n (1 to 40)");
        for (int n : new int[] {1, 2, 39, 40}) {
            int best = 0;
            int deepest = -1;
            for (int kind = 0; kind < 6; kind++) {
                IntentVats y = Check.told("felt; wool about 2 deep 60; light 5; quarrel 2;");
                y.mind(1, kind);
                y.days(n);
                if (y.of(1, 2) > deepest) best = kind;
                deepest = Math.max(y.of(1, 2), deepest);
            }
            check.due("kindFor(1, " + n + ")", Check.told("felt; wool about 2 deep 60; light 5; quarrel 2;").kindFor(1, n), best);
        }
    }

    private static void kindForOutside() {
        check.sentence("29: BAD, no such one, n below 1, above 40");
        for (int c : NO_CLOTHS) check.bad("kindFor(" + c + ", 1)", x -> x.kindFor(c, 1));
        for (int n : NO_40) check.bad("kindFor(0, " + n + ")", x -> x.kindFor(0, n));
    }

    private static void strengthForLeast() {
        check.sentence("STRENGTH FOR: the least STRENGTH (0 ..)");
        check.due("0 does", Check.told("cloth;").strengthFor(0, 0, 0, 1), 0);
        check.due("1 does", Check.told("cloth; mordant 0;").strengthFor(0, 0, 0, 1), 1);
        check.due("another VAT", Check.told("cloth;").strengthFor(7, 0, 0, 1), 0);
        check.due("4 does", Check.told("cloth about 9 deep 3;").strengthFor(0, 0, 0, 1), 4);
        check.due("0 keeps it", Check.told("cloth about 9 deep 3;").strengthFor(0, 0, 9, 1), 0);
    }

    private static void strengthForMost() {
        check.sentence("STRENGTH FOR: the least STRENGTH (.. 9)");
        check.due("9 does", Check.told("cloth about 9 deep 8;").strengthFor(0, 0, 0, 1), 9);
    }

    private static void strengthForNone() {
        check.sentence("30: NONE: with none");
        check.refusedBy(() -> Check.told("cloth about 9 deep 9;"), "with none", x -> x.strengthFor(0, 0, 0, 1), -3);
        check.due("another VAT", Check.told("cloth about 9 deep 8;").strengthFor(1, 0, 0, 1), -3);
    }

    private static void strengthForForty() {
        check.sentence("30: n (1 to 40)");
        check.due("behind 40", slow(39).strengthFor(7, 0, 0, 40), 0);
        check.due("not behind 40", slow(40).strengthFor(7, 0, 0, 40), -3);
        check.due("behind 40", slow(41).strengthFor(7, 0, 9, 40), 0);
    }

    private static void strengthForOutside() {
        check.sentence("30: BAD, no such VAT, one, PURPOSE, n below 1, above 40");
        for (int v : new int[] {-1, 8, MOST, LEAST}) check.bad("strengthFor(" + v + ", 0, 0, 1)", x -> x.strengthFor(v, 0, 0, 1));
        for (int c : NO_CLOTHS) check.bad("strengthFor(0, " + c + ", 0, 1)", x -> x.strengthFor(0, c, 0, 1));
        for (int p : NO_PURPOSES) check.bad("strengthFor(0, 0, " + p + ", 1)", x -> x.strengthFor(0, 0, p, 1));
        for (int n : NO_40) check.bad("strengthFor(0, 0, 0, " + n + ")", x -> x.strengthFor(0, 0, 0, n));
    }

    /** Eight that each dip turns and that do not fade. */
    private static IntentVats eight() {
        IntentVats x = new IntentVats();
        for (int i = 0; i < 8; i++) {
            x.cloth(0);
            x.steep(i, 9, 1);
        }
        x.fill(0, 1, 9);
        x.set(1, 0);
        return x;
    }

    private static void hangForNone() {
        check.sentence("HANG FOR: the set of fewest: none of them");
        check.due("v 8", eight().hangFor(1, 8), 0);
        check.due("none is spoilt", slow(61).hangFor(30, 0), 0);
    }

    private static void hangForAll() {
        check.sentence("31: v (0 to 8)");
        IntentVats x = eight();
        int[] sets = {255, 127, 63, 31, 15, 7, 3, 1, 0};
        for (int v = 0; v <= 8; v++) check.due("hangFor(1, " + v + ")", x.hangFor(1, v), sets[v]);
    }

    private static void hangForFewest() {
        check.sentence("HANG FOR: the set of fewest CLOTHS");
        IntentVats x = Check.told("cloth about 9 deep 5; cloth about 9 deep 5; cloth about 9 deep 2; light 1;");
        check.due("the third instead of the first two", x.hangFor(1, 1), 4);
    }

    private static void hangForLeast() {
        check.sentence("HANG FOR: of several the least");
        check.due("one of eight", eight().hangFor(1, 7), 1);
        IntentVats x = eight();
        x.steep(0, 9, 99);
        x.steep(1, 9, 99);
        check.due("one of six", x.hangFor(1, 5), 4);
        check.due("two of six", x.hangFor(1, 4), 12);
    }

    private static void hangForNoOthers() {
        check.sentence("HANG FOR: were these HUNG now and no others");
        IntentVats x = eight();
        for (int i = 0; i < 8; i++) x.hang(i, 1);
        check.due("those hung are not", x.hangFor(1, 7), 1);
        check.due("hung as before", x.state(2), 255);
    }

    private static void hangForNoSet() {
        check.sentence("31: NONE: by no set");
        check.refusedBy(() -> Check.told("cloth about 9 deep 2; cloth about 9 deep 2; light 2;"), "by no set", x -> x.hangFor(1, 1), -3);
        check.due("two may", Check.told("cloth about 9 deep 2; cloth about 9 deep 2; light 2;").hangFor(1, 2), 0);
    }

    private static void hangForThirty() {
        check.sentence("31: n (1 to 30)");
        check.due("behind 30", slow(30).hangFor(30, 0), -3);
        check.due("not yet behind 30", slow(31).hangFor(30, 0), 0);
        check.due("behind 29", slow(30).hangFor(29, 0), 0);
    }

    private static void hangForNoCloths() {
        check.sentence("HANG FOR without CLOTHS");
        check.due("hangFor(30, 0)", new IntentVats().hangFor(30, 0), 0);
    }

    private static void hangForOutside() {
        check.sentence("31: BAD, n below 1, above 30, v below 0, above 8");
        for (int n : new int[] {0, -1, 31, MOST, LEAST}) check.bad("hangFor(" + n + ", 1)", x -> x.hangFor(n, 1));
        for (int v : new int[] {-1, 9, MOST, LEAST}) check.bad("hangFor(1, " + v + ")", x -> x.hangFor(1, v));
    }
}
