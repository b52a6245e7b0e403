/** The boundaries of promises 17 to 21, a method for each sentence: days, draws, luck, the state. */
public final class EdgeDayTest {
    private static final Check check = new Check();
    private static final int MOST = Integer.MAX_VALUE;
    private static final int LEAST = Integer.MIN_VALUE;

    public static void main(String[] args) {
        daysRange();
        daysOutside();
        dayNoCloths();
        dayNoVat();
        dayHungNotDipped();
        dayByNumbers();
        dayStrengthToNothing();
        dayFadesToNothing();
        dayFadesBelow0();
        dayFades99();
        dayHungAboutNothing();
        dayNotHungDoesNotFade();
        dayStrength9();
        dayWrapsRoster();
        seedAnyInt();
        drawsWrap();
        noClothsNoDraw();
        leavesByHowMany();
        slipJustAt();
        slipNever();
        thirdDrawByEight();
        slipDipsTheHungOne();
        slipComesBeforeTheDay();
        luckRange();
        luckOutside();
        luckMoreThan();
        luckZGoesOn();
        luckChangesNothing();
        luckNoCloths();
        stateVatNone();
        stateSets();
        stateOddsNothing();
        stateOddsHung();
        stateOutside();
        check.end();
    }

    private static void daysRange() {
        check.sentence("17: n DAYS (1 to 60)");
        IntentVats x = Check.told("cloth;");
        check.due("days(1)", x.days(1), 8);
        check.due("day", x.state(0), 1);
        check.due("days(60) against one by one", x.days(60), sixtyOneByOne());
        check.due("day", x.state(0), 61);
    }

    private static int sixtyOneByOne() {
        IntentVats y = Check.told("cloth;");
        int all = 0;
        for (int i = 0; i < 61; i++) all = y.days(1);
        return all;
    }

    private static void daysOutside() {
        check.sentence("17: BAD, n below 1, above 60");
        for (int n : new int[] {0, -1, 61, MOST, LEAST}) check.bad("days(" + n + ")", x -> x.days(n));
    }

    private static void dayNoCloths() {
        check.sentence("A DAY without CLOTHS");
        IntentVats x = new IntentVats();
        check.due("days(3)", x.days(3), 0);
        check.due("day", x.state(0), 3);
        check.same("vats", Check.vats(x), "0/8 1/8 2/8 3/8 4/8 5/8 6/8 7/8");
    }

    private static void dayNoVat() {
        check.sentence("A DAY: (1) If the ROSTER tells a VAT for its rest");
        IntentVats x = Check.told("cloth; cloth about 3 deep 9;");
        x.roster(0, -1);
        check.due("days(1)", x.days(1), 9);
        check.same("not dipped", Check.cloths(x), "0/0/0/0/0 0/4/9/0/0");
    }

    private static void dayHungNotDipped() {
        check.sentence("A DAY: (1) each that isn't HUNG is dipped");
        IntentVats x = Check.told("cloth hung; cloth; cloth hung; cloth;");
        x.days(1);
        check.same("two of them", Check.cloths(x), "0/0/0/1/0 0/1/8/0/1 0/0/0/1/0 0/1/7/0/1");
        check.due("strength: two less, one more", x.vatOf(0, 1), 4);
    }

    private static void dayByNumbers() {
        check.sentence("A DAY: (1) by numbers (by STRENGTH as it is then)");
        IntentVats x = Check.told("wool; cloth; muslin; strong 0 9;");
        x.days(1);
        check.same("9, 8, 7", Check.cloths(x), "1/1/15/0/1 0/1/11/0/1 5/1/5/0/1");
    }

    private static void dayStrengthToNothing() {
        check.sentence("A DAY: STRENGTH 0 at least, while it is dipped");
        IntentVats x = Check.told("cloth;cloth;cloth;cloth;cloth;cloth;cloth;cloth; mordant 0;");
        check.due("days(1)", x.days(1), 15);
        check.same("cloths", Check.cloths(x), "0/1/5/0/1 0/1/4/0/1 0/1/3/0/1 0/1/2/0/1 0/1/1/0/1 0/0/0/0/1 0/0/0/0/1 0/0/0/0/1");
        check.due("0, and 1 more", x.vatOf(0, 1), 1);
    }

    private static void dayFadesToNothing() {
        check.sentence("A DAY: (2) at 0, or less, it is ABOUT nothing, 0 DEEP");
        IntentVats x = Check.told("cloth about 3 deep 3 hung; cloth about 3 deep 2 hung; cloth about 3 deep 1 hung;");
        check.due("days(1)", x.days(1), 1);
        check.same("1, 0, less", Check.cloths(x), "0/4/1/1/0 0/0/0/1/0 0/0/0/1/0");
    }

    private static void dayFadesBelow0() {
        check.sentence("A DAY: (2) DEEP is what it FADES less, that below 0");
        IntentVats x = Check.told("wool about 3 deep 3 hung; light 0;");
        check.due("days(1)", x.days(1), 4);
    }

    private static void dayFades99() {
        check.sentence("A DAY: (2) 99 at most");
        IntentVats x = Check.told("wool about 3 deep 97 hung; light 0;");
        check.due("98", x.days(1), 98);
        check.due("99", x.days(1), 99);
        check.due("99", x.days(1), 99);
    }

    private static void dayHungAboutNothing() {
        check.sentence("A DAY: (2) HUNG and ABOUT anything");
        IntentVats x = Check.told("wool hung; light 0;");
        check.due("days(60)", x.days(60), 0);
        check.same("nothing", Check.cloth(x, 0), "1/0/0/1/0");
    }

    private static void dayNotHungDoesNotFade() {
        check.sentence("A DAY: (2) Of each that is HUNG");
        IntentVats x = Check.told("cloth about 3 deep 9; cloth about 3 deep 9 hung; light 9;");
        x.roster(0, -1);
        x.days(1);
        check.same("one fades", Check.cloths(x), "0/4/9/0/0 0/0/0/1/0");
    }

    private static void dayStrength9() {
        check.sentence("A DAY: (3) STRENGTH of all VATS is 1 more (9 at most)");
        IntentVats x = Check.told("strong 0 9; strong 1 8; strong 2 7; strong 7 0;");
        x.days(1);
        check.same("vats", Check.vats(x), "0/9 1/9 2/8 3/6 4/6 5/6 6/6 7/1");
        x.days(60);
        check.same("vats", Check.vats(x), "0/9 1/9 2/9 3/9 4/9 5/9 6/9 7/9");
    }

    private static void dayWrapsRoster() {
        check.sentence("DAY by 6: the seventh DAY is of rest 0 again");
        IntentVats x = Check.told("cloth;");
        for (int rest = 0; rest < 6; rest++) x.roster(rest, -1);
        x.roster(0, 7);
        x.days(1);
        check.due("dips", x.of(0, 4), 1);
        x.days(5);
        check.due("dips", x.of(0, 4), 1);
        x.days(1);
        check.due("dips", x.of(0, 4), 2);
    }

    private static void seedAnyInt() {
        check.sentence("18: z becomes v: what it was (1 at first)");
        IntentVats x = new IntentVats();
        check.due("at first", x.seed(LEAST), 1);
        check.due("least", x.seed(MOST), LEAST);
        check.due("most", x.seed(-1), MOST);
        check.due("-1, no refusal", x.seed(0), -1);
        check.due("0", x.seed(7), 0);
    }

    private static int next(int z) {
        return (int) (z * 1103515245L + 12345L & 0xffffffffL);
    }

    private static int drawn(int z) {
        return (int) ((z & 0xffffffffL) / 65536);
    }

    private static void drawsWrap() {
        check.sentence("z (an int) becomes z * 1103515245 + 12345; z >>> 16 is drawn");
        for (int start : new int[] {0, 1, -1, MOST, LEAST, 123456789, -987654321}) {
            IntentVats x = Check.told("felt; felt; felt; felt; felt; slip 0;");
            x.seed(start);
            x.day();
            check.due("two draws from " + start, x.seed(0), next(next(start)));
        }
        check.due("1", next(1), 1103527590);
        check.due("z of 1", drawn(1103527590), 16838);
        check.due("unsigned", drawn(-1), 65535);
    }

    private static void noClothsNoDraw() {
        check.sentence("A DAY BY DRAWS: if there are CLOTHS, a draw");
        IntentVats x = new IntentVats();
        x.set(3, 99);
        check.due("day()", x.day(), 0);
        check.due("z", x.seed(1), 1);
        check.due("a DAY", x.state(0), 1);
        check.due("vat", x.vatOf(0, 1), 6);
    }

    private static IntentVats slipping(int count) {
        IntentVats x = new IntentVats();
        for (int i = 0; i < count; i++) x.cloth(0);
        for (int rest = 0; rest < 6; rest++) x.roster(rest, -1);
        x.set(3, 99);
        return x;
    }

    /** Seeds of which the first draw is above 32767 as well as below it. */
    private static void leavesByHowMany() {
        check.sentence("A DAY BY DRAWS: the one that it leaves by how many there are");
        int high = 0;
        for (int count = 1; count <= 8; count++) {
            for (int start = -20; start < 20; start++) {
                int z1 = next(start * 1000003);
                int z2 = next(z1);
                if (drawn(z2) % 100 >= 99) continue;
                if (drawn(z1) > 32767) high++;
                IntentVats x = slipping(count);
                x.seed(start * 1000003);
                x.day();
                for (int i = 0; i < count; i++) check.due("dips of " + i, x.of(i, 4), i == drawn(z1) % count ? 1 : 0);
            }
        }
        check.due("seen", high > 50 ? 1 : 0, 1);
    }

    private static void slipJustAt() {
        check.sentence("A DAY BY DRAWS: if what that leaves by 100 is below SLIP");
        for (int start = 1; start < 60; start++) {
            int z2 = next(next(start));
            int left = drawn(z2) % 100;
            for (int slip = Math.max(0, left - 1); slip <= Math.min(99, left + 1); slip++) {
                IntentVats x = slipping(3);
                x.set(3, slip);
                x.seed(start);
                x.day();
                check.due(left + " and " + slip, x.of(0, 4) + x.of(1, 4) + x.of(2, 4), left < slip ? 1 : 0);
                check.due("z", x.seed(0), left < slip ? next(z2) : z2);
            }
        }
    }

    private static void slipNever() {
        check.sentence("A DAY BY DRAWS: SLIP 0: none is ever dipped so");
        IntentVats x = slipping(1);
        x.set(3, 0);
        for (int i = 0; i < 300; i++) x.day();
        check.due("dips", x.of(0, 4), 0);
    }

    private static void thirdDrawByEight() {
        check.sentence("A DAY BY DRAWS: the VAT that a third draw leaves by 8");
        int seen = 0;
        for (int start = 1; start < 60; start++) {
            int z2 = next(next(start));
            if (drawn(z2) % 100 >= 99) continue;
            int vat = drawn(next(z2)) % 8;
            seen |= 1 << vat;
            IntentVats x = slipping(1);
            x.seed(start);
            x.day();
            check.due("about", x.of(0, 1), 1 + vat);
        }
        check.due("each of the eight", seen, 255);
    }

    private static void slipDipsTheHungOne() {
        check.sentence("A DAY BY DRAWS: that one is dipped, also if it is HUNG");
        IntentVats x = slipping(1);
        x.hang(0, 1);
        for (int i = 0; i < 5; i++) x.day();
        check.due("dips", x.of(0, 4) > 0 ? 1 : 0, 1);
    }

    private static void slipComesBeforeTheDay() {
        check.sentence("A DAY BY DRAWS: then a DAY");
        IntentVats x = Check.told("cloth; slip 99;");
        int start = 0;
        while (drawn(next(next(next(start)))) % 8 != 0 || drawn(next(next(start))) % 100 >= 99) start++;
        x.seed(start);
        check.due("by 5 first, by 4 then", x.day(), 8 + 7);
        check.due("dips", x.of(0, 4), 2);
        check.due("strength", x.vatOf(0, 1), 4);
    }

    private static void luckRange() {
        check.sentence("20: LUCK (n 1 to 30)");
        for (int start = 1; start < 40; start++) {
            IntentVats x = slipping(1);
            x.seed(start);
            int z = start;
            int lucky = 0;
            for (int i = 1; i <= 30; i++) {
                z = next(next(z));
                if (drawn(z) % 100 < 99) {
                    lucky++;
                    z = next(z);
                }
                if (i == 1) check.due("luck(1)", x.luck(1), lucky);
                if (i == 2) check.due("luck(2)", x.luck(2), lucky);
            }
            check.due("luck(30)", x.luck(30), lucky);
        }
    }

    private static void luckOutside() {
        check.sentence("20: BAD, n below 1, above 30");
        for (int n : new int[] {0, -1, 31, MOST, LEAST}) check.bad("luck(" + n + ")", x -> x.luck(n));
    }

    private static void luckMoreThan() {
        check.sentence("LUCK: are more than behind a DAY");
        IntentVats x = Check.told("cloth; wool about 3; slip 0;");
        check.due("as many is not more", x.luck(30), 0);
        x = slipping(1);
        x.steep(0, 0, 99);
        for (int vat = 0; vat < 8; vat++) x.fill(vat, 0, 0);
        check.due("99 is not more than 99", x.luck(30), 0);
        for (int vat = 0; vat < 8; vat++) x.fill(vat, 0, 1);
        check.due("less is not more", x.luck(30), 0);
    }

    private static void luckZGoesOn() {
        check.sentence("LUCK: each tried from how all is now (z alone goes on)");
        for (int start = 5; start < 25; start++) {
            IntentVats x = Check.told("cloth; wool about 3; slip 50;");
            int plain = Check.told("cloth; wool about 3; slip 50;").days(1);
            int z = start;
            int lucky = 0;
            for (int i = 0; i < 30; i++) {
                IntentVats y = Check.told("cloth; wool about 3; slip 50;");
                y.seed(z);
                if (y.day() > plain) lucky++;
                z = y.seed(0);
            }
            x.seed(start);
            check.due("luck(30)", x.luck(30), lucky);
        }
    }

    private static void luckChangesNothing() {
        check.sentence("LUCK: (nothing changes, z neither)");
        IntentVats x = Check.busy();
        long luck = x.luck(30);
        check.refused("luck(30)", y -> y.luck(30), luck);
    }

    private static void luckNoCloths() {
        check.sentence("LUCK without CLOTHS");
        check.due("luck(30)", new IntentVats().luck(30), 0);
    }

    private static void stateVatNone() {
        check.sentence("21: 1 the VAT of now by the ROSTER and 1 (0: none)");
        IntentVats x = new IntentVats();
        x.roster(0, 7);
        check.due("vat 7", x.state(1), 8);
        x.roster(0, 0);
        check.due("vat 0", x.state(1), 1);
        x.roster(0, -1);
        check.due("none", x.state(1), 0);
    }

    private static void stateSets() {
        check.sentence("21: as a set; Sets are told by bits");
        IntentVats x = Check.told("cloth hung;wool;wool;wool about 1;wool;wool;wool;felt about 9 deep 99 hung;");
        check.due("hung", x.state(2), 129);
        check.due("about", x.state(3), 136);
        check.due("depths", x.state(4), 119);
        for (int i = 0; i < 8; i++) {
            x.hang(i, 1);
            x.steep(i, 0, 99);
        }
        check.due("all hung", x.state(2), 255);
        check.due("all about", x.state(3), 255);
        check.due("all depths", x.state(4), 792);
    }

    private static void stateOddsNothing() {
        check.sentence("ODDS AMONG: ABOUT unlike things (nothing is none)");
        check.due("none", new IntentVats().state(5), 0);
        check.due("one", Check.told("cloth about 1;").state(5), 0);
        check.due("nothing", Check.told("cloth about 0; cloth; cloth;").state(5), 0);
        check.due("like things", Check.told("cloth about 1; wool about 1 deep 3;").state(5), 0);
        check.due("unlike things", Check.told("cloth about 1; wool about 0;").state(5), 1);
        IntentVats x = new IntentVats();
        for (int i = 0; i < 8; i++) {
            x.cloth(0);
            x.steep(i, i, 9);
        }
        check.due("all eight", x.state(5), 28);
    }

    private static void stateOddsHung() {
        check.sentence("ODDS AMONG: neither being HUNG");
        check.due("the first", Check.told("cloth about 1 hung; wool about 0;").state(5), 0);
        check.due("the second", Check.told("cloth about 1; wool about 0 hung;").state(5), 0);
        check.due("both", Check.told("cloth about 1 hung; wool about 0 hung;").state(5), 0);
        check.due("a third", Check.told("cloth about 1 hung; wool about 0; felt about 4;").state(5), 1);
    }

    private static void stateOutside() {
        check.sentence("21: BAD, another what");
        for (int what : new int[] {-1, 6, MOST, LEAST}) check.bad("state(" + what + ")", x -> x.state(what));
    }
}
