/** The boundaries of promises 2 and 3, a method for each sentence: the tape and the text on it. */
public final class EdgeTextTest {
    private static final Check check = new Check();
    private static final int MOST = Integer.MAX_VALUE;
    private static final int LEAST = Integer.MIN_VALUE;
    private static final long BLANKS = 0x2020202020202020L;
    private static final String EIGHT = "felt;wool;cloth;linen;felt;wool;cloth;shroud;";

    public static void main(String[] args) {
        feedOneToEight();
        feedTooFewTooMany();
        lowestFirst();
        onlyNBytes();
        highestByte();
        twoHundred();
        full();
        fullStays();
        badBeforeFull();
        usedUp();
        usedUpAtAFault();
        emptyTape();
        noRowsThen();
        rowsAtAFault();
        faultAtTheFirstByte();
        faultBehindTheLastByte();
        kinds();
        aboutAlone();
        aboutRange();
        deepRange();
        vatRange();
        strongRange();
        dayRange();
        lawRange();
        slipRange();
        namesAsLongAsTheyGo();
        numbersAsLongAsTheyGo();
        numbersOfThreeDigits();
        numbersOfMoreDigits();
        blanksAnywhere();
        blanksNowhere();
        otherBytes();
        besideLettersAndDigits();
        whatCanNotStandThere();
        moreMustCome();
        endOfAFullTape();
        endBeforeOlderBytes();
        ninth();
        eightAndMore();
        byItAlone();
        byItAloneOfTexts();
        zStays();
        faultChangesNothing();
        check.end();
    }

    private static IntentVats tapeOf(int bytes) {
        IntentVats x = new IntentVats();
        for (int left = bytes; left > 0; left -= 8) x.feed(BLANKS, Math.min(8, left));
        return x;
    }

    private static void fault(String text, int place) {
        check.due("mill of '" + text + "'", Check.millOf(new IntentVats(), text), -100 - place);
    }

    private static void feedOneToEight() {
        check.sentence("2: n bytes (1 to 8): how many it has");
        for (int n = 1; n <= 8; n++) {
            IntentVats x = new IntentVats();
            check.due("feed of " + n, x.feed(BLANKS, n), n);
            check.due("many(5)", x.many(5), n);
            check.due("one more", x.feed(32, 1), n + 1);
        }
    }

    private static void feedTooFewTooMany() {
        check.sentence("2: BAD, n below 1 or above 8");
        for (int n : new int[] {0, -1, 9, MOST, LEAST}) check.bad("feed of " + n, x -> x.feed(BLANKS, n));
    }

    private static void lowestFirst() {
        check.sentence("2: the lowest of eight first");
        IntentVats x = new IntentVats();
        x.feed('f' | 'e' << 8 | 'l' << 16 | (long) 't' << 24 | (long) ';' << 32 | (long) ' ' << 40 | (long) '!' << 48, 7);
        check.due("the seventh is the one", x.mill(), -106);
        x.feed('f' | 'e' << 8 | 'l' << 16 | (long) 't' << 24 | (long) ';' << 32, 5);
        check.due("felt;", x.mill(), 1);
    }

    private static void onlyNBytes() {
        check.sentence("2: n bytes come, no others");
        IntentVats x = new IntentVats();
        x.feed(0x2121212121212120L, 1);
        check.due("a blank", x.mill(), 0);
        x.feed(0x2121212121212120L, 2);
        check.due("a blank and another", x.mill(), -101);
    }

    private static void highestByte() {
        check.sentence("2: eight bytes, as they are");
        IntentVats x = new IntentVats();
        x.feed(0x8020202020202020L, 8);
        check.due("128 last", x.mill(), -107);
        x.feed(-1L, 8);
        check.due("255 first", x.mill(), -100);
        x.feed(0x2020202020202020L, 8);
        check.due("blanks", x.mill(), 0);
    }

    private static void twoHundred() {
        check.sentence("THE TAPE takes bytes, 200 at most");
        check.due("eight more", tapeOf(192).feed(BLANKS, 8), 200);
        check.due("one more", tapeOf(199).feed(BLANKS, 1), 200);
        check.due("all 200 are read", tapeOf(200).mill(), 0);
    }

    private static void full() {
        check.sentence("2: FULL: more than 200");
        for (int n = 1; n <= 8; n++) {
            int bytes = n;
            check.refusedBy(() -> tapeOf(201 - bytes), "feed of " + n, x -> x.feed(BLANKS, bytes), -2);
            check.refusedBy(() -> tapeOf(200), "feed of " + n, x -> x.feed(BLANKS, bytes), -2);
        }
    }

    private static void fullStays() {
        check.sentence("2: FULL changes nothing");
        IntentVats x = tapeOf(194);
        check.due("seven", x.feed(BLANKS, 7), -2);
        check.due("wool;", x.feed(';' * 0x100000000L | 'l' << 24 | 'o' << 16 | 'o' << 8 | 'w', 5), 199);
        check.due("two", x.feed(BLANKS, 2), -2);
        check.due("one", x.feed(BLANKS, 1), 200);
        check.due("wool", x.mill(), 1);
    }

    private static void badBeforeFull() {
        check.sentence("of several the first named: BAD, FULL (feed)");
        check.due("feed of 9", tapeOf(200).feed(BLANKS, 9), -1);
        check.due("feed of 0", tapeOf(200).feed(BLANKS, 0), -1);
    }

    private static void usedUp() {
        check.sentence("mill() uses it up");
        IntentVats x = new IntentVats();
        Check.millOf(x, "wool;wool;");
        check.due("many(5)", x.many(5), 0);
        check.due("the next text is alone", Check.millOf(x, "felt;"), 1);
        check.due("felt", x.of(0, 0), 3);
    }

    private static void usedUpAtAFault() {
        check.sentence("such a call changes nothing (but that THE TAPE is used up by mill())");
        IntentVats x = Check.told("cloth;");
        check.due("a fault", Check.millOf(x, "wool;woo"), -105);
        check.due("many(5)", x.many(5), 0);
        check.due("the next text is alone", Check.millOf(x, "l;"), -100);
        check.due("one", x.many(0), 1);
    }

    private static void emptyTape() {
        check.sentence("3: a TEXT of nothing");
        IntentVats x = Check.told("wool; light 9; day 3 vat 0; vat 1 of 0; strong 1 1;");
        x.days(4);
        check.due("mill()", x.mill(), 0);
        check.same("as at first", Check.look(x), Check.look(new IntentVats()));
    }

    private static void noRowsThen() {
        check.sentence("3: There are no ROWS then.");
        IntentVats x = Check.told("wool;");
        x.prove(0, 10);
        check.due("mill", Check.millOf(x, "wool;"), 1);
        check.due("many(4)", x.many(4), 0);
        check.due("row(0, 0)", x.row(0, 0), -9);
        check.due("alterRow(0, 0, 0)", x.alterRow(0, 0, 0), -9);
        check.due("judge(0)", x.judge(0), 0);
    }

    private static void rowsAtAFault() {
        check.sentence("3: at a FAULT nothing changes, ROWS neither");
        IntentVats x = Check.told("wool;");
        x.prove(0, 10);
        String rows = Check.rows(x);
        check.due("mill", Check.millOf(x, "wool"), -104);
        check.due("many(4)", x.many(4), 10);
        check.same("rows", Check.rows(x), rows);
    }

    private static void faultAtTheFirstByte() {
        check.sentence("FAULT: the place (from 0)");
        fault(";", 0);
        fault("x", 0);
        fault("7", 0);
        fault("  x", 2);
        fault("wool; x", 6);
    }

    private static void faultBehindTheLastByte() {
        check.sentence("FAULT: or the end (how many bytes there are)");
        IntentVats x = tapeOf(192);
        check.due("eight more", x.feed(0x206c6f6f77202020L, 8), 200);
        check.due("mill", x.mill(), -300);
    }

    private static void kinds() {
        check.sentence("KIND (cloth | wool | linen | felt | shroud | muslin): one more");
        IntentVats x = Check.told("muslin;shroud;felt;linen;wool;cloth;");
        check.same("kinds", Check.cloths(x), "5/0/0/0/0 4/0/0/0/0 3/0/0/0/0 2/0/0/0/0 1/0/0/0/0 0/0/0/0/0");
    }

    private static void aboutAlone() {
        check.sentence("about: a PURPOSE (0 to 9), 20 DEEP, or as told");
        check.same("about", Check.cloths(Check.told("felt about 4;")), "3/5/20/0/0");
        check.same("about, hung", Check.cloths(Check.told("felt about 4 hung;")), "3/5/20/1/0");
        check.same("as told", Check.cloths(Check.told("felt about 4 deep 21;")), "3/5/21/0/0");
        check.same("hung alone", Check.cloths(Check.told("felt hung;")), "3/0/0/1/0");
    }

    private static void aboutRange() {
        check.sentence("about: a PURPOSE (0 to 9)");
        check.same("0", Check.cloths(Check.told("felt about 0;")), "3/1/20/0/0");
        check.same("9", Check.cloths(Check.told("felt about 9;")), "3/10/20/0/0");
        fault("felt about 10;", 11);
        fault("felt about 999;", 11);
    }

    private static void deepRange() {
        check.sentence("deep: as told (1 to 99)");
        check.same("1", Check.cloths(Check.told("felt about 0 deep 1;")), "3/1/1/0/0");
        check.same("99", Check.cloths(Check.told("felt about 0 deep 99;")), "3/1/99/0/0");
        fault("felt about 0 deep 0;", 18);
        fault("felt about 0 deep 000;", 18);
        fault("felt about 0 deep 100;", 18);
    }

    private static void vatRange() {
        check.sentence("vat N of N: PURPOSE of one");
        IntentVats x = Check.told("vat 0 of 9; vat 7 of 0;");
        check.same("vats", Check.vats(x), "9/5 1/5 2/5 3/5 4/5 5/5 6/5 0/5");
        fault("vat 8 of 1;", 4);
        fault("vat 1 of 10;", 9);
    }

    private static void strongRange() {
        check.sentence("strong N N: STRENGTH of one");
        IntentVats x = Check.told("strong 0 9; strong 7 0;");
        check.same("vats", Check.vats(x), "0/9 1/5 2/5 3/5 4/5 5/5 6/5 7/0");
        fault("strong 8 1;", 7);
        fault("strong 1 10;", 9);
    }

    private static void dayRange() {
        check.sentence("day N vat N: of a rest (0 to 5)");
        IntentVats x = Check.told("day 0 vat 7; day 5 vat 0;");
        check.same("roster", Check.rosters(x), "823451");
        fault("day 6 vat 1;", 4);
        fault("day 1 vat 8;", 10);
    }

    private static void lawRange() {
        check.sentence("mordant N, light N, quarrel N: the LAW (0 to 9)");
        check.same("0", Check.laws(Check.told("mordant 0; light 0; quarrel 0;")), "0 0 0 20");
        check.same("9", Check.laws(Check.told("quarrel 9; light 9; mordant 9;")), "9 9 9 20");
        check.same("each its own", Check.laws(Check.told("mordant 5; light 6; quarrel 7; slip 8;")), "5 6 7 8");
        fault("mordant 10;", 8);
        fault("light 10;", 6);
        fault("quarrel 10;", 8);
    }

    private static void slipRange() {
        check.sentence("slip N: the LAW (0 to 99)");
        check.due("0", Check.told("slip 0;").lawOf(3), 0);
        check.due("99", Check.told("slip 99;").lawOf(3), 99);
        fault("slip 100;", 5);
    }

    private static void namesAsLongAsTheyGo() {
        check.sentence("NAMES are as long as they go");
        fault("wools;", 0);
        fault("woolabout 1;", 0);
        fault("wool aboutt 1;", 5);
        fault("wool abou 1;", 5);
        fault("wool about 1 deepe 2;", 13);
        fault("wool about 1 dee 2;", 13);
        fault("wool hungs;", 5);
        fault("wool hun;", 5);
        fault("vat 1 off 2;", 6);
        fault("vat 1 o 2;", 6);
        fault("day 1 va 2;", 6);
        fault("slipp 2;", 0);
        fault("sli 2;", 0);
        fault("w ool;", 0);
    }

    private static void numbersAsLongAsTheyGo() {
        check.sentence("NUMBERS are as long as they go");
        fault("strong 12;", 7);
        fault("vat 10 of 1;", 4);
        fault("strong 1 1 1;", 11);
        check.due("parted by a blank", Check.told("strong 1 2;").vatOf(1, 1), 2);
    }

    private static void numbersOfThreeDigits() {
        check.sentence("NUMBERS rows of digits (1 to 3)");
        check.due("1", Check.told("slip 7;").lawOf(3), 7);
        check.due("2", Check.told("slip 07;").lawOf(3), 7);
        check.due("3", Check.told("slip 007;").lawOf(3), 7);
        check.due("3", Check.told("slip 099;").lawOf(3), 99);
        check.due("3", Check.told("light 000;").lawOf(1), 0);
    }

    private static void numbersOfMoreDigits() {
        check.sentence("FAULT: a NUMBER of more digits");
        fault("slip 0007;", 5);
        fault("slip 0000;", 5);
        fault("slip 00000000000000000000000000000007;", 5);
        fault("slip 4294967296;", 5);
        fault("slip 4294967303;", 5);
        fault("slip 18446744073709551616;", 5);
        fault("felt about 0005;", 11);
        fault("felt about 5 deep 0005;", 18);
    }

    private static void blanksAnywhere() {
        check.sentence("blanks (32) stand elsewhere as one likes");
        IntentVats x = Check.told("   felt   about   3   deep   4   hung   ;   slip   9   ;   ");
        check.same("cloth", Check.cloths(x), "3/4/4/1/0");
        check.due("slip", x.lawOf(3), 9);
        check.due("blanks alone", Check.millOf(x, "       "), 0);
    }

    private static void blanksNowhere() {
        check.sentence("blanks part NAMES and NUMBERS, where these would be one");
        IntentVats x = Check.told("felt about3deep4hung;vat1of0;strong1 3;day1vat7;slip9;");
        check.same("cloth", Check.cloths(x), "3/4/4/1/0");
        check.due("vat", x.vatOf(1, 0), 0);
        check.due("strong", x.vatOf(1, 1), 3);
        check.due("day", x.rosterOf(1), 8);
        check.due("slip", x.lawOf(3), 9);
    }

    private static void otherBytes() {
        check.sentence("FAULT: other byte that can't stand there");
        for (int b = 0; b < 256; b++) {
            boolean word = b >= 'a' && b <= 'z' || b >= '0' && b <= '9' || b == ' ';
            if (word) continue;
            fault((char) b + "wool;", 0);
            fault("slip " + (char) b + "1;", 5);
            fault("wool" + (char) b + "hung;", b == ';' ? 5 : 4);
            fault("light 1" + (char) b + ";", b == ';' ? 8 : 7);
        }
    }

    private static void besideLettersAndDigits() {
        check.sentence("letters a to z, digits");
        fault("wool about 3 deep 1`;", 19);
        fault("wool{;", 4);
        fault("wool`;", 4);
        fault("slip 1/;", 6);
        fault("slip 1:;", 6);
        check.due("digits 0 to 9", Check.told("slip 90;").lawOf(3), 90);
        fault("zool;", 0);
        fault("Wool;", 0);
        fault("woOl;", 0);
    }

    private static void whatCanNotStandThere() {
        check.sentence("FAULT: the first NAME, NUMBER that can't stand there");
        fault("about 1;", 0);
        fault("deep 1;", 0);
        fault("hung;", 0);
        fault("of 1;", 0);
        fault("1;", 0);
        fault("wool 1;", 5);
        fault("wool wool;", 5);
        fault("wool deep 1;", 5);
        fault("wool about hung;", 11);
        fault("wool about ;", 11);
        fault("wool about 1 about 1;", 13);
        fault("wool about 1 2;", 13);
        fault("wool about 1 deep hung;", 18);
        fault("wool about 1 deep 1 1;", 20);
        fault("wool about 1 deep 1 deep 1;", 20);
        fault("wool hung hung;", 10);
        fault("wool hung about 1;", 10);
        fault("wool about 1 hung deep 1;", 18);
        fault("vat of 1;", 4);
        fault("vat 1 2;", 6);
        fault("vat 1 vat 2;", 6);
        fault("vat 1 of of;", 9);
        fault("vat 1 of 1 1;", 11);
        fault("strong of 1;", 7);
        fault("strong 1 of 1;", 9);
        fault("strong 1 1 of;", 11);
        fault("day vat 1;", 4);
        fault("day 1 1;", 6);
        fault("day 1 of 1;", 6);
        fault("day 1 vat vat;", 10);
        fault("day 1 vat 1 1;", 12);
        fault("light light;", 6);
        fault("light 1 1;", 8);
        fault("light 1 of;", 8);
        fault("wool;;", 5);
        fault("wool; 1", 6);
    }

    private static void moreMustCome() {
        check.sentence("FAULT: the end, if more must come");
        String[] texts = {"felt about 3 deep 4 hung", "felt hung", "vat 1 of 2", "strong 1 2", "day 1 vat 2", "mordant 1", "light 1", "quarrel 1", "slip 1"};
        for (String text : texts) {
            for (int i = 1; i <= text.length(); i++) {
                boolean ends = i == text.length() || text.charAt(i) == ' ';
                if (!ends) continue;
                fault(text.substring(0, i), i);
                fault(text.substring(0, i) + "   ", i + 3);
                fault("wool;" + text.substring(0, i), 5 + i);
            }
        }
    }

    private static void endOfAFullTape() {
        check.sentence("FAULT: the end of a tape of 200 bytes");
        for (String last : new String[] {"slip 1", "slip", "wool", "vat 1 of 1", "felt about 1"}) {
            String text = " ".repeat(200 - last.length()) + last;
            fault(text, 200);
            boolean ends = !last.equals("slip");
            check.due("and with its stop", Check.millOf(new IntentVats(), text.substring(1) + ";") >= 0 ? 1 : 0, ends ? 1 : 0);
        }
    }

    private static void endBeforeOlderBytes() {
        check.sentence("mill() uses it up: bytes of the text before don't go on");
        IntentVats x = Check.told("slip 12;");
        check.due("slip 1", Check.millOf(x, "slip 1"), -106);
        check.due("slip 12;", Check.millOf(x, "slip 12;"), 0);
        check.due("sli", Check.millOf(x, "sli"), -100);
        check.due("slip 12;", Check.millOf(x, "slip 12;"), 0);
        check.due("slip 12", Check.millOf(x, "slip 12"), -107);
        check.due("wool;", Check.millOf(x, "wool;"), 1);
        check.due("woo", Check.millOf(x, "woo"), -100);
    }

    private static void ninth() {
        check.sentence("FAULT: the NAME of a ninth one");
        String[] kinds = {"cloth", "wool", "linen", "felt", "shroud", "muslin"};
        for (String kind : kinds) fault(EIGHT + "  " + kind + ";", EIGHT.length() + 2);
        fault(EIGHT + "wool about 10;", EIGHT.length());
        fault(EIGHT + "wool", EIGHT.length());
        fault(EIGHT + "light 3; wool;", EIGHT.length() + 9);
    }

    private static void eightAndMore() {
        check.sentence("CLOTHS, 8 at most");
        IntentVats x = new IntentVats();
        check.due("eight", Check.millOf(x, EIGHT + "light 7;"), 8);
        check.due("light", x.lawOf(1), 7);
        check.due("the last", x.of(7, 0), 4);
        check.due("eight anew", Check.millOf(x, EIGHT), 8);
    }

    private static void byItAlone() {
        check.sentence("It is all by it alone (what it doesn't tell is as at first)");
        IntentVats x = Check.told("wool about 3 deep 7 hung; felt about 1;");
        for (int law = 0; law < 4; law++) x.set(law, 9);
        for (int vat = 0; vat < 8; vat++) {
            x.fill(vat, 0, 9 - vat);
            x.fill(vat, 1, vat);
        }
        for (int rest = 0; rest < 6; rest++) x.roster(rest, -1);
        x.dip(0, 3);
        x.dip(1, 3);
        x.days(8);
        check.due("mill", Check.millOf(x, "linen;"), 1);
        check.same("all", Check.look(x), Check.look(Check.told("linen;")));
        x.cloth(0);
        check.same("the second one is new", Check.cloth(x, 1), "0/0/0/0/0");
    }

    private static void byItAloneOfTexts() {
        check.sentence("It is all by it alone: nothing of the texts before");
        String all = "mordant 9; light 9; quarrel 9; slip 9; vat 0 of 9; strong 0 9; vat 7 of 0; strong 7 0; day 0 vat 7; day 5 vat 0; felt about 9 deep 9 hung; felt hung;";
        IntentVats x = Check.told(all);
        check.due("mill", Check.millOf(x, "linen;"), 1);
        check.same("all", Check.look(x), Check.look(Check.told("linen;")));
        check.due("mill", Check.millOf(x, all + "felt"), -100 - all.length() - 4);
        check.due("mill", Check.millOf(x, "linen; linen;"), 2);
        check.same("nor of a refused one", Check.look(x), Check.look(Check.told("linen; linen;")));
    }

    private static void zStays() {
        check.sentence("z stays");
        IntentVats x = new IntentVats();
        x.seed(-77);
        Check.millOf(x, "wool;");
        check.due("z", x.seed(5), -77);
        Check.millOf(x, "woo;");
        check.due("z, at a fault", x.seed(6), 5);
    }

    private static void faultChangesNothing() {
        check.sentence("3: a refused mill() changes nothing but THE TAPE");
        String[] texts = {"x", "felt about 9 deep 9 hung; felt; felt; felt; felt; light 1; vat 1 of 1; strong 1 1; day 1 vat 1; x",
            "mordant 1; quarrel 1; slip 1; wool", EIGHT + "wool;"};
        for (String text : texts) {
            IntentVats one = Check.busy();
            IntentVats other = Check.busy();
            one.mill();
            other.mill();
            one.keep();
            other.keep();
            one.prove(0, 2);
            other.prove(0, 2);
            check.due("refused", Check.millOf(one, text) < 0 ? 1 : 0, 1);
            check.same("now", Check.look(one), Check.look(other));
            check.due("again", one.again(), other.again());
            check.same("kept", Check.look(one), Check.look(other));
        }
    }
}
