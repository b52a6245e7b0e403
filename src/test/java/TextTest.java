/** Promises 2 and 3: the tape and the mill that it tells. */
public final class TextTest {
    private static final Check check = new Check();

    public static void main(String[] args) {
        feeding();
        wholeText();
        shortTexts();
        oneAfterAnother();
        blanksAndNumbers();
        faults();
        ninth();
        whatStays();
        check.end();
    }

    private static void feeding() {
        IntentVats x = new IntentVats();
        check.due("feed 0", x.feed(59, 0), -1);
        check.due("feed 9", x.feed(59, 9), -1);
        check.due("feed -1", x.feed(59, Integer.MIN_VALUE), -1);
        check.due("none came", x.many(5), 0);
        for (int i = 1; i <= 24; i++) check.due("feed", x.feed(0x2020202020202020L, 8), 8 * i);
        check.due("feed 7", x.feed(0x2020202020202020L, 7), 199);
        check.due("feed over", x.feed(0x2020L, 2), -2);
        check.due("bad before full", x.feed(0x2020L, 9), -1);
        check.due("still", x.many(5), 199);
        check.due("feed to the brim", x.feed(0x20L, 1), 200);
        check.due("feed over", x.feed(0x20L, 1), -2);
        check.due("blanks alone", x.mill(), 0);
        check.due("used up", x.many(5), 0);
        check.due("lowest first", x.feed(0x203b6c6f6f77L, 6), 6);
        check.due("wool;", x.mill(), 1);
        check.due("of wool", x.of(0, 0), 1);
        check.due("all eight", x.feed(0x3b74666c65666cL << 8 | ' ', 8), 8);
        check.due("lfelft;", x.mill(), -101);
        check.due("the eighth", x.feed(0xff20202020202020L, 8), 8);
        check.due("byte 255", x.mill(), -107);
    }

    private static void wholeText() {
        IntentVats x = new IntentVats();
        int got = Check.millOf(x, "cloth about 0; wool about 9 deep 1; linen about 5 deep 99 hung; felt hung;"
            + "shroud about 7 hung; muslin; vat 3 of 9; strong 4 0; day 5 vat 7; mordant 9;"
            + "light 0; quarrel 1; slip 99;");
        check.due("mill", got, 6);
        check.same("cloths", Check.cloths(x), "0/1/20/0/0 1/10/1/0/0 2/6/99/1/0 3/0/0/1/0 4/8/20/1/0 5/0/0/0/0");
        check.same("vats", Check.vats(x), "0/5 1/5 2/5 9/5 4/0 5/5 6/5 7/5");
        check.same("roster", Check.rosters(x), "123458");
        check.same("laws", Check.laws(x), "9 0 1 99");
        check.due("day", x.state(0), 0);
    }

    private static void shortTexts() {
        check.due("no text", new IntentVats().mill(), 0);
        IntentVats x = Check.told("light 3; light 7; vat 0 of 3; vat 0 of 4; strong 7 9; day 0 vat 0; slip 0;");
        check.due("the later one", x.lawOf(1), 7);
        check.due("the later one", x.vatOf(0, 0), 4);
        check.due("strong", x.vatOf(7, 1), 9);
        check.due("slip", x.lawOf(3), 0);
        check.due("it is by it alone", Check.millOf(x, "wool;"), 1);
        check.same("laws", Check.laws(x), "3 2 4 20");
        check.same("vats", Check.vats(x), "0/5 1/5 2/5 3/5 4/5 5/5 6/5 7/5");
    }

    /** Nothing of a text before, of a text that failed, or of cloths that went comes back. */
    private static void oneAfterAnother() {
        IntentVats x = Check.told("wool about 3 deep 7 hung; cloth about 2; day 0 vat 7; day 5 vat 0; vat 7 of 0; vat 0 of 9; strong 7 0; strong 0 9;");
        check.due("to 0", x.vatOf(7, 0), 0);
        check.due("to 0", x.vatOf(7, 1), 0);
        check.same("roster", Check.rosters(x), "823451");
        x.days(3);
        x.keep();
        check.due("a text that fails", Check.millOf(x, "felt about 1 hung; felt hung; felt hung; light 9; day 1 vat 5; vat 3 of 0; no"), -175);
        check.due("a shorter one", Check.millOf(x, "linen; linen;"), 2);
        check.same("cloths", Check.cloths(x), "2/0/0/0/0 2/0/0/0/0");
        check.same("vats", Check.vats(x), "0/5 1/5 2/5 3/5 4/5 5/5 6/5 7/5");
        check.same("roster", Check.rosters(x), "123456");
        check.same("laws", Check.laws(x), "3 2 4 20");
        check.due("day", x.state(0), 0);
        x.cloth(3);
        check.same("one more", Check.cloth(x, 2), "3/0/0/0/0");
        x.again();
        x.dip(1, 1);
        x.steep(1, 8, 8);
        x.hang(1, 1);
        Check.millOf(x, "felt;");
        x.cloth(5);
        check.same("one more", Check.cloth(x, 1), "5/0/0/0/0");
    }

    private static void blanksAndNumbers() {
        IntentVats x = Check.told("   wool   about   003  deep 099   hung   ;   strong 007 009 ;  ");
        check.same("blanks", Check.cloths(x), "1/4/99/1/0");
        check.due("zeros", x.vatOf(7, 1), 9);
        x = Check.told("vat3of4;strong2 0;muslin about1deep2hung;day0vat7;slip5;");
        check.same("without blanks", Check.cloths(x), "5/2/2/1/0");
        check.due("without blanks", x.vatOf(3, 0), 4);
        check.due("without blanks", x.rosterOf(0), 8);
    }

    private static void fault(String text, int place) {
        IntentVats x = Check.told("felt about 2; slip 7;");
        x.prove(0, 2);
        x.days(1);
        String before = Check.look(x);
        check.due("mill of '" + text + "'", Check.millOf(x, text), -100 - place);
        check.same("after '" + text + "'", Check.look(x), before);
    }

    private static void faults() {
        fault("clot;", 0);
        fault("clothe;", 0);
        fault("bool;", 0);
        fault("cloth ebout 3;", 6);
        fault("wools;", 0);
        fault("woo;", 0);
        fault("clothabout 3;", 0);
        fault("about 3;", 0);
        fault("hung;", 0);
        fault("of;", 0);
        fault(" 3;", 1);
        fault("Cloth;", 0);
        fault(" ;", 1);
        fault("cloth;;", 6);
        fault("cloth", 5);
        fault("cloth  ", 7);
        fault("cloth!", 5);
        fault("cloth\t;", 5);
        fault("cloth\u00e9;", 5);
        fault("cloth 3;", 6);
        fault("cloth about", 11);
        fault("cloth about ;", 12);
        fault("cloth about two;", 12);
        fault("cloth about 10;", 12);
        fault("cloth about 0003;", 12);
        fault("cloth about 3", 13);
        fault("cloth about 3 4;", 14);
        fault("cloth about 3 of;", 14);
        fault("cloth about 3 deep 0;", 19);
        fault("cloth about 3 deep 100;", 19);
        fault("cloth about 3 deep 0100;", 19);
        fault("cloth about 3 deep;", 18);
        fault("cloth about 3 deep 3 deep 3;", 21);
        fault("cloth about 3 about 4;", 14);
        fault("cloth deep 3;", 6);
        fault("cloth hung about 3;", 11);
        fault("cloth hung hung;", 11);
        fault("cloth about 3 hung deep 4;", 19);
        fault("wool; vat 8 of 1;", 10);
        fault("vat 1 of 10;", 9);
        fault("vat 1 1;", 6);
        fault("vat 1 vat 2;", 6);
        fault("vat of 1;", 4);
        fault("vat 1 of 2", 10);
        fault("vat 1 of 2 vat;", 11);
        fault("strong 8 1;", 7);
        fault("strong 1 10;", 9);
        fault("strong 29;", 7);
        fault("strong 1;", 8);
        fault("strong 1 of 2;", 9);
        fault("day 6 vat 1;", 4);
        fault("day 5 vat 8;", 10);
        fault("day 5 of 3;", 6);
        fault("day 5 vat 7 8;", 12);
        fault("mordant 10;", 8);
        fault("light 10;", 6);
        fault("quarrel 10;", 8);
        fault("slip 100;", 5);
        fault("slip 1000000000000;", 5);
        fault("slip 4294967296;", 5);
        fault("slip ;", 5);
        fault("light 1 1;", 8);
        fault("light 1; wool; x", 15);
        fault("day 0 vat -1;", 10);
    }

    private static void ninth() {
        String eight = "wool;cloth;felt;linen;wool;cloth;felt;muslin;";
        IntentVats x = Check.told(eight + "light 1;");
        check.due("eight", x.many(0), 8);
        check.due("ninth", Check.millOf(x, eight + "  wool ;"), -100 - eight.length() - 2);
        check.due("eight stay", x.many(0), 8);
        check.due("a later number is no matter", Check.millOf(x, eight + "wool about 10;"), -100 - eight.length());
    }

    private static void whatStays() {
        IntentVats x = new IntentVats();
        x.cloth(2);
        x.seed(77);
        x.days(9);
        x.prove(0, 3);
        x.sheet(1, 0, 2);
        x.put(1, 0, 5);
        x.shelf(2, 0, 0);
        x.act(2, 0, 1);
        x.keep();
        check.due("mill", Check.millOf(x, "cloth;felt;"), 2);
        check.due("rows", x.many(4), 0);
        check.due("day", x.state(0), 0);
        check.due("z", Check.z(x), 77);
        check.same("cloths", Check.cloths(x), "0/0/0/0/0 3/0/0/0/0");
        check.due("a sheet stays", x.item(1, 0, 0), 5);
        check.due("a shelf stays", x.taken(2, 0), 0);
        check.same("the trace stays", Check.trace(x), "30 10");
        check.due("what is kept stays", x.again(), 1);
        check.due("what is kept stays", x.state(0), 9);
    }
}
