/** The boundaries of promises 10 to 16, a method for each sentence: cloths, what they do, dipping. */
public final class EdgeClothTest {
    private static final Check check = new Check();
    private static final int MOST = Integer.MAX_VALUE;
    private static final int LEAST = Integer.MIN_VALUE;
    private static final int[] NO_CLOTHS = {-1, 4, 8, MOST, LEAST};
    private static final int[] NO_VATS = {-1, 8, MOST, LEAST};

    public static void main(String[] args) {
        kindRange();
        kindOutside();
        clothFull();
        badBeforeFull();
        newOne();
        ofOutside();
        takesLinenBelow0();
        takesMuslinCut();
        takesMost();
        fightsWoolBelow0();
        fightsMost();
        fadesWoolBelow0();
        fadesFelt0();
        fadesMost();
        fadesVatDoesNotMatter();
        fadesVatMustBeTold();
        doesOutside();
        mindRange();
        mindOutside();
        mindWhatStays();
        steepRange();
        steepNothing();
        steepOutside();
        hangRange();
        hangOutside();
        dipNothing();
        dipNothingTakes0();
        dipNothingTakesBelow0();
        dipSameTakesBelow0();
        dipSame99();
        dipOtherAbove0();
        dipOtherJust0();
        dipOtherBelow0();
        dipOtherFights0();
        dipOtherFightsBelow0();
        dipOther99();
        dipStrengthAsItIsBefore();
        dipStrength0();
        dipsMost();
        dipOutside();
        check.end();
    }

    private static void kindRange() {
        check.sentence("10: a KIND 0 to 5, its number as they come");
        IntentVats x = new IntentVats();
        for (int kind = 0; kind < 6; kind++) {
            check.due("cloth(" + kind + ")", x.cloth(kind), kind);
            check.due("its kind", x.of(kind, 0), kind);
        }
    }

    private static void kindOutside() {
        check.sentence("10: BAD, no such KIND");
        for (int kind : new int[] {-1, 6, MOST, LEAST}) check.bad("cloth(" + kind + ")", x -> x.cloth(kind));
    }

    private static IntentVats eight() {
        return Check.told("felt; wool; cloth; linen; felt; wool; cloth; shroud about 3 hung;");
    }

    private static void clothFull() {
        check.sentence("10: FULL: CLOTHS, 8 at most");
        IntentVats x = new IntentVats();
        for (int i = 0; i < 8; i++) check.due("cloth", x.cloth(1), i);
        for (int kind = 0; kind < 6; kind++) {
            int k = kind;
            check.refusedBy(EdgeClothTest::eight, "a ninth", y -> y.cloth(k), -2);
        }
    }

    private static void badBeforeFull() {
        check.sentence("of several the first named: BAD, FULL (cloth)");
        check.due("cloth(6)", eight().cloth(6), -1);
        check.due("cloth(-1)", eight().cloth(-1), -1);
    }

    private static void newOne() {
        check.sentence("ABOUT nothing (at first), 0 DEEP, not HUNG, 0 DIPS");
        IntentVats x = new IntentVats();
        x.keep();
        for (int kind = 0; kind < 6; kind++) {
            x.cloth(kind);
            check.same("new", Check.cloth(x, 0), kind + "/0/0/0/0");
            x.steep(0, 9, 99);
            x.hang(0, 1);
            x.dip(0, 0);
            x.again();
        }
    }

    private static void ofOutside() {
        check.sentence("11: BAD, no such one, another what");
        for (int cloth : NO_CLOTHS) {
            for (int what = 0; what < 5; what++) {
                int w = what;
                check.bad("of(" + cloth + ", " + w + ")", x -> x.of(cloth, w));
            }
        }
        for (int what : new int[] {-1, 5, MOST, LEAST}) check.bad("of(0, " + what + ")", x -> x.of(0, what));
    }

    private static IntentVats one(String kind, int strength, int mordant, int light, int quarrel) {
        return Check.told(kind + "; strong 3 " + strength + "; mordant " + mordant + "; light " + light + "; quarrel " + quarrel + ";");
    }

    private static void takesLinenBelow0() {
        check.sentence("TAKES: linen: as cloth, less LIGHT (so it may be below 0)");
        check.due("0", one("linen", 4, 5, 9, 0).does(0, 3, 0), 1000);
        check.due("-1", one("linen", 4, 4, 9, 0).does(0, 3, 0), 999);
        check.due("-9", one("linen", 0, 0, 9, 0).does(0, 3, 0), 991);
        check.due("shroud -9", one("shroud", 0, 0, 9, 0).does(0, 3, 0), 991);
        check.due("shroud 0", one("shroud", 0, 0, 9, 9).does(0, 3, 0), 1000);
    }

    private static void takesMuslinCut() {
        check.sentence("TAKES: muslin: half of as cloth (cut)");
        int[] halves = {0, 0, 1, 1, 2, 2, 3, 3, 4, 4};
        for (int s = 0; s <= 9; s++) check.due("half of " + s, one("muslin", s, 0, 9, 9).does(0, 3, 0), 1000 + halves[s]);
        check.due("half of 17", one("muslin", 9, 8, 9, 9).does(0, 3, 0), 1008);
    }

    private static void takesMost() {
        check.sentence("TAKES of the strongest VAT");
        int[] takes = {18, 21, 18, 42, 27, 9};
        IntentVats x = one("cloth", 9, 9, 0, 9);
        for (int kind = 0; kind < 6; kind++) {
            x.mind(0, kind);
            check.due("kind " + kind, x.does(0, 3, 0), 1000 + takes[kind]);
        }
    }

    private static void fightsWoolBelow0() {
        check.sentence("FIGHTS: wool: as cloth, less QUARREL (so it may be below 0)");
        check.due("0", one("wool", 9, 0, 0, 9).does(0, 3, 1), 1000);
        check.due("-1", one("wool", 8, 0, 0, 9).does(0, 3, 1), 999);
        check.due("-9", one("wool", 0, 9, 9, 9).does(0, 3, 1), 991);
        check.due("felt -9", one("felt", 0, 0, 9, 9).does(0, 3, 1), 991);
        check.due("felt 0", one("felt", 0, 9, 9, 9).does(0, 3, 1), 1000);
    }

    private static void fightsMost() {
        check.sentence("FIGHTS of the strongest VAT");
        int[] fights = {9, 0, 18, 9, 36, 10};
        IntentVats x = one("cloth", 9, 9, 0, 9);
        for (int kind = 0; kind < 6; kind++) {
            x.mind(0, kind);
            check.due("kind " + kind, x.does(0, 3, 1), 1000 + fights[kind]);
        }
    }

    private static void fadesWoolBelow0() {
        check.sentence("FADES: wool: as cloth, less 1 (so it may be below 0)");
        check.due("-1", one("wool", 5, 0, 0, 0).does(0, 3, 2), 999);
        check.due("0", one("wool", 5, 0, 1, 0).does(0, 3, 2), 1000);
        check.due("8", one("wool", 5, 0, 9, 0).does(0, 3, 2), 1008);
    }

    private static void fadesFelt0() {
        check.sentence("FADES: felt: 0");
        for (int light = 0; light <= 9; light++) check.due("felt", one("felt", 5, 0, light, 0).does(0, 3, 2), 1000);
    }

    private static void fadesMost() {
        check.sentence("FADES by the least and the most LIGHT");
        int[] least = {0, -1, 1, 0, 2, 3};
        int[] most = {9, 8, 10, 0, 20, 12};
        for (int kind = 0; kind < 6; kind++) {
            IntentVats x = one("cloth", 5, 0, 0, 0);
            x.mind(0, kind);
            check.due("by 0, kind " + kind, x.does(0, 3, 2), 1000 + least[kind]);
            x.set(1, 9);
            check.due("by 9, kind " + kind, x.does(0, 3, 2), 1000 + most[kind]);
        }
    }

    private static void fadesVatDoesNotMatter() {
        check.sentence("12: a VAT must be told, but does not matter");
        IntentVats x = one("muslin", 0, 9, 9, 9);
        for (int vat = 0; vat < 8; vat++) check.due("vat " + vat, x.does(0, vat, 2), 1012);
    }

    private static void fadesVatMustBeTold() {
        check.sentence("12: BAD, no such VAT");
        for (int vat : NO_VATS) {
            for (int what = 0; what < 3; what++) {
                int w = what;
                check.bad("does(0, " + vat + ", " + w + ")", x -> x.does(0, vat, w));
            }
        }
    }

    private static void doesOutside() {
        check.sentence("12: BAD, no such one, another what");
        for (int cloth : NO_CLOTHS) {
            for (int what = 0; what < 3; what++) {
                int w = what;
                check.bad("does(" + cloth + ", 0, " + w + ")", x -> x.does(cloth, 0, w));
            }
        }
        for (int what : new int[] {-1, 3, MOST, LEAST}) check.bad("does(0, 0, " + what + ")", x -> x.does(0, 0, what));
    }

    private static void mindRange() {
        check.sentence("13: another KIND (0 to 5): the KIND that it was");
        IntentVats x = Check.told("wool; wool;");
        check.due("mind(1, 0)", x.mind(1, 0), 1);
        check.due("mind(1, 5)", x.mind(1, 5), 0);
        check.due("mind(1, 5)", x.mind(1, 5), 5);
        check.due("the other", x.of(0, 0), 1);
    }

    private static void mindOutside() {
        check.sentence("13: BAD, no such one, no such KIND");
        for (int cloth : NO_CLOTHS) check.bad("mind(" + cloth + ", 1)", x -> x.mind(cloth, 1));
        for (int kind : new int[] {-1, 6, MOST, LEAST}) check.bad("mind(0, " + kind + ")", x -> x.mind(0, kind));
    }

    private static void mindWhatStays() {
        check.sentence("13: it becomes one of another KIND, the rest stays");
        IntentVats x = Check.told("wool about 3 deep 7 hung;");
        x.dip(0, 3);
        check.same("before", Check.cloth(x, 0), "1/4/18/1/1");
        x.mind(0, 4);
        check.same("behind", Check.cloth(x, 0), "4/4/18/1/1");
    }

    private static void steepRange() {
        check.sentence("14: a PURPOSE (0 to 9), so DEEP (1 to 99)");
        IntentVats x = Check.told("wool;");
        check.due("least", x.steep(0, 0, 1), 0);
        check.same("least", Check.cloth(x, 0), "1/1/1/0/0");
        check.due("most", x.steep(0, 9, 99), 1);
        check.same("most", Check.cloth(x, 0), "1/10/99/0/0");
    }

    private static void steepNothing() {
        check.sentence("14: (-1 and 0: nothing)");
        IntentVats x = Check.told("wool about 9 deep 3;");
        check.due("nothing", x.steep(0, -1, 0), 10);
        check.same("nothing", Check.cloth(x, 0), "1/0/0/0/0");
        check.due("nothing again", x.steep(0, -1, 0), 0);
    }

    private static void steepOutside() {
        check.sentence("14: BAD, no such one, PURPOSE, DEEP");
        for (int cloth : NO_CLOTHS) {
            check.bad("steep(" + cloth + ", 1, 1)", x -> x.steep(cloth, 1, 1));
            check.bad("steep(" + cloth + ", -1, 0)", x -> x.steep(cloth, -1, 0));
        }
        for (int purpose : new int[] {-1, -2, 10, MOST, LEAST}) check.bad("steep(0, " + purpose + ", 5)", x -> x.steep(0, purpose, 5));
        for (int deep : new int[] {0, -1, 100, MOST, LEAST}) check.bad("steep(0, 5, " + deep + ")", x -> x.steep(0, 5, deep));
        for (int deep : new int[] {-1, 1, 99, 100}) check.bad("steep(0, -1, " + deep + ")", x -> x.steep(0, -1, deep));
        check.bad("steep(0, -2, 0)", x -> x.steep(0, -2, 0));
        check.bad("steep(0, 10, 0)", x -> x.steep(0, 10, 0));
    }

    private static void hangRange() {
        check.sentence("15: HUNG becomes v (0 or 1): what it was");
        IntentVats x = Check.told("wool;");
        check.due("hang(0, 0)", x.hang(0, 0), 0);
        check.due("hang(0, 1)", x.hang(0, 1), 0);
        check.due("hang(0, 1)", x.hang(0, 1), 1);
        check.due("hang(0, 0)", x.hang(0, 0), 1);
    }

    private static void hangOutside() {
        check.sentence("15: BAD, no such one, another v");
        for (int cloth : NO_CLOTHS) check.bad("hang(" + cloth + ", 1)", x -> x.hang(cloth, 1));
        for (int v : new int[] {-1, 2, MOST, LEAST}) check.bad("hang(0, " + v + ")", x -> x.hang(0, v));
    }

    private static void dipNothing() {
        check.sentence("TO DIP: ABOUT nothing: it is ABOUT that, DEEP is what it TAKES more");
        IntentVats x = Check.told("felt; strong 0 9; mordant 9;");
        check.due("dip", x.dip(0, 0), 1);
        check.same("felt", Check.cloth(x, 0), "3/1/42/0/1");
    }

    private static void dipNothingTakes0() {
        check.sentence("TO DIP: at 0 it is ABOUT nothing");
        IntentVats x = Check.told("cloth; muslin; strong 3 0; mordant 0; strong 4 1;");
        check.due("dip", x.dip(0, 3), 0);
        check.same("cloth", Check.cloth(x, 0), "0/0/0/0/1");
        check.due("dip", x.dip(1, 4), 0);
        check.same("muslin", Check.cloth(x, 1), "5/0/0/0/1");
    }

    private static void dipNothingTakesBelow0() {
        check.sentence("TO DIP: at less than 0 it is ABOUT nothing, and 0 DEEP");
        IntentVats x = Check.told("linen; strong 3 0; mordant 8; light 9;");
        check.due("dip", x.dip(0, 3), 0);
        check.same("linen", Check.cloth(x, 0), "2/0/0/0/1");
    }

    private static void dipSameTakesBelow0() {
        check.sentence("TO DIP: ABOUT the PURPOSE of the VAT, TAKES below 0");
        IntentVats x = Check.told("linen about 3 deep 10; linen about 3 deep 9; linen about 3 deep 8; strong 3 0; mordant 0; light 9;");
        check.due("1 is left", x.dip(0, 3), 4);
        check.due("0 is left", x.dip(1, 3), 0);
        check.due("less than 0 is left", x.dip(2, 3), 0);
        check.same("linen", Check.cloths(x), "2/4/1/0/1 2/0/0/0/1 2/0/0/0/1");
    }

    private static void dipSame99() {
        check.sentence("TO DIP: then DEEP is 99 at most");
        IntentVats x = Check.told("cloth about 3 deep 90; cloth about 4 deep 91; cloth about 5 deep 92; cloth about 6 deep 99;");
        for (int i = 0; i < 4; i++) check.due("dip", x.dip(i, 3 + i), 4 + i);
        check.same("8 more", Check.cloths(x), "0/4/98/0/1 0/5/99/0/1 0/6/99/0/1 0/7/99/0/1");
    }

    private static void dipOtherAbove0() {
        check.sentence("TO DIP: else DEEP is what it FIGHTS less");
        IntentVats x = Check.told("cloth about 9 deep 6;");
        check.due("dip", x.dip(0, 3), 10);
        check.same("1 is left", Check.cloth(x, 0), "0/10/1/0/1");
    }

    private static void dipOtherJust0() {
        check.sentence("TO DIP: if that is 0, it is ABOUT nothing");
        IntentVats x = Check.told("cloth about 9 deep 5;");
        check.due("dip", x.dip(0, 3), 0);
        check.same("nothing is left", Check.cloth(x, 0), "0/0/0/0/1");
    }

    private static void dipOtherBelow0() {
        check.sentence("TO DIP: if that is below 0, it is ABOUT the PURPOSE of the VAT, and DEEP is 0 less that");
        IntentVats x = Check.told("cloth about 9 deep 4; shroud about 9 deep 1; strong 4 9; quarrel 9;");
        check.due("dip", x.dip(0, 3), 4);
        check.due("dip", x.dip(1, 4), 5);
        check.same("turned", Check.cloths(x), "0/4/1/0/1 4/5/35/0/1");
    }

    private static void dipOtherFights0() {
        check.sentence("TO DIP: FIGHTS of 0");
        IntentVats x = Check.told("cloth about 9 deep 1; strong 3 0;");
        check.due("dip", x.dip(0, 3), 10);
        check.same("as before", Check.cloth(x, 0), "0/10/1/0/1");
    }

    private static void dipOtherFightsBelow0() {
        check.sentence("TO DIP: FIGHTS below 0: DEEP is more");
        IntentVats x = Check.told("wool about 9 deep 1; strong 3 0; quarrel 9;");
        check.due("dip", x.dip(0, 3), 10);
        check.same("deeper", Check.cloth(x, 0), "1/10/10/0/1");
    }

    private static void dipOther99() {
        check.sentence("TO DIP: FIGHTS below 0, then DEEP is 99 at most");
        IntentVats x = Check.told("wool about 9 deep 89; wool about 9 deep 90; wool about 9 deep 91; strong 3 0; quarrel 9;");
        for (int i = 0; i < 3; i++) check.due("dip", x.dip(i, 3), 10);
        check.same("9 more", Check.cloths(x), "1/10/98/0/1 1/10/99/0/1 1/10/99/0/1");
    }

    private static void dipStrengthAsItIsBefore() {
        check.sentence("TO DIP: STRENGTH of the VAT is 1 less");
        IntentVats x = Check.told("cloth; cloth; strong 3 9; mordant 0;");
        x.dip(0, 3);
        check.due("strength", x.vatOf(3, 1), 8);
        x.dip(1, 3);
        check.same("9, then 8", Check.cloths(x), "0/4/9/0/1 0/4/8/0/1");
        check.same("that VAT alone", Check.vats(x), "0/5 1/5 2/5 3/7 4/5 5/5 6/5 7/5");
    }

    private static void dipStrength0() {
        check.sentence("TO DIP: STRENGTH (0 at least)");
        IntentVats x = Check.told("cloth; strong 3 1;");
        x.dip(0, 3);
        check.due("1 less", x.vatOf(3, 1), 0);
        x.dip(0, 3);
        check.due("0", x.vatOf(3, 1), 0);
        check.due("deep", x.of(0, 2), 4 + 3);
    }

    private static void dipsMost() {
        check.sentence("DIPS is 1 more (9999 at most)");
        IntentVats x = Check.told("cloth; wool hung;");
        for (int i = 0; i < 166; i++) x.days(60);
        x.days(37);
        check.due("9997", x.of(0, 4), 9997);
        x.dip(0, 1);
        check.due("9998", x.of(0, 4), 9998);
        x.days(1);
        check.due("9999", x.of(0, 4), 9999);
        x.dip(0, 1);
        check.due("9999", x.of(0, 4), 9999);
        x.days(60);
        check.due("9999", x.of(0, 4), 9999);
        check.due("the hung one", x.of(1, 4), 0);
    }

    private static void dipOutside() {
        check.sentence("16: BAD, no such one, no such VAT");
        for (int cloth : NO_CLOTHS) check.bad("dip(" + cloth + ", 1)", x -> x.dip(cloth, 1));
        for (int vat : NO_VATS) check.bad("dip(0, " + vat + ")", x -> x.dip(0, vat));
    }
}
