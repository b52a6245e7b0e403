/** Promises 17 to 21: days, draws, luck, the state. */
public final class DayTest {
    private static final Check check = new Check();

    public static void main(String[] args) {
        oneByOne();
        order();
        hung();
        noVat();
        sixty();
        mostDips();
        draws();
        drawnDip();
        luck();
        state();
        check.end();
    }

    private static void oneByOne() {
        IntentVats x = Check.told("cloth;");
        int[] depths = {8, 2, 5, 3, 6, 3, 6};
        int[] abouts = {1, 1, 3, 4, 5, 6, 1};
        for (int i = 0; i < 7; i++) {
            check.due("day " + i, x.days(1), depths[i]);
            check.same("cloth", Check.cloth(x, 0), "0/" + abouts[i] + "/" + depths[i] + "/0/" + (i + 1));
        }
        check.due("day", x.state(0), 7);
        check.same("vats", Check.vats(x), "0/9 1/9 2/9 3/9 4/9 5/9 6/9 7/9");
        check.due("seven at once", Check.told("cloth;").days(7), 6);
        String before = Check.look(x);
        check.due("days(0)", x.days(0), -1);
        check.due("days(61)", x.days(61), -1);
        check.due("days(-1)", x.days(-1), -1);
        check.same("refused", Check.look(x), before);
    }

    private static void order() {
        IntentVats x = Check.told("cloth; cloth; cloth; strong 0 2;");
        check.due("by numbers", x.days(1), 5 + 4 + 3);
        check.same("by numbers", Check.cloths(x), "0/1/5/0/1 0/1/4/0/1 0/1/3/0/1");
        check.same("strengths", Check.vats(x), "0/1 1/6 2/6 3/6 4/6 5/6 6/6 7/6");
    }

    private static void hung() {
        IntentVats x = Check.told("cloth about 1 deep 9 hung; wool about 1 deep 9 hung; linen about 1 deep 9 hung; "
            + "felt about 1 deep 9 hung; shroud about 1 deep 9 hung; muslin about 1 deep 9 hung; wool hung;");
        check.due("fade", x.days(1), 7 + 8 + 6 + 9 + 3 + 4);
        check.due("fade", x.days(1), 5 + 7 + 3 + 9);
        check.same("faded", Check.cloths(x), "0/2/5/1/0 1/2/7/1/0 2/2/3/1/0 3/2/9/1/0 4/0/0/1/0 5/0/0/1/0 1/0/0/1/0");
        x = Check.told("wool about 1 deep 98 hung; wool hung; light 0;");
        check.due("fades below 0", x.days(1), 99);
        check.due("99 at most", x.days(5), 99);
        check.same("nothing stays nothing", Check.cloth(x, 1), "1/0/0/1/0");
    }

    private static void noVat() {
        IntentVats x = Check.told("cloth; cloth about 3 deep 4 hung; strong 1 9; strong 2 8;");
        x.roster(0, -1);
        check.due("none", x.days(1), 2);
        check.same("not dipped", Check.cloths(x), "0/0/0/0/0 0/4/2/1/0");
        check.same("strengths", Check.vats(x), "0/6 1/9 2/9 3/6 4/6 5/6 6/6 7/6");
        x.roster(0, 7);
        x.roster(1, 7);
        x.days(1);
        check.due("the told vat", x.of(0, 1), 8);
    }

    private static void sixty() {
        IntentVats x = Check.told("cloth; felt;");
        int all = x.days(60);
        check.due("sixty", x.state(0), 60);
        check.due("all depths", all, x.of(0, 2) + x.of(1, 2));
        check.due("dips", x.of(1, 4), 60);
        IntentVats y = Check.told("cloth; felt;");
        for (int i = 0; i < 60; i++) y.days(1);
        check.same("one by one", Check.look(y), Check.look(x));
    }

    private static void mostDips() {
        IntentVats x = Check.told("cloth;");
        for (int i = 0; i < 166; i++) x.days(60);
        check.due("dips", x.of(0, 4), 9960);
        x.days(38);
        x.dip(0, 1);
        check.due("dips", x.of(0, 4), 9999);
        x.dip(0, 1);
        x.days(2);
        check.due("no more", x.of(0, 4), 9999);
        check.due("day", x.state(0), 10000);
    }

    private static int next(int z) {
        return (int) ((z * 1103515245L + 12345L) % 4294967296L);
    }

    private static int drawn(int z) {
        return (int) ((z & 0xffffffffL) / 65536L);
    }

    private static void draws() {
        IntentVats x = new IntentVats();
        check.due("no cloths", x.day(), 0);
        check.due("no draw", x.seed(7), 1);
        check.due("seed", x.seed(-9), 7);
        check.due("seed", x.seed(1), -9);
        x.cloth(0);
        x.set(3, 0);
        x.day();
        check.due("two draws", Check.z(x), next(next(1)));
        for (int z = -20; z < 20; z++) {
            IntentVats y = Check.told("felt; cloth; linen; slip 50;");
            int start = z * 77777777;
            y.seed(start);
            int z1 = next(start);
            int z2 = next(z1);
            int z3 = next(z2);
            boolean slips = drawn(z2) % 100 < 50;
            int all = y.day();
            check.due("z", Check.z(y), slips ? z3 : z2);
            IntentVats same = Check.told("felt; cloth; linen; slip 50;");
            if (slips) same.dip(drawn(z1) % 3, drawn(z3) % 8);
            check.due("all depths", all, same.days(1));
            check.same("day", Check.cloths(y) + Check.vats(y), Check.cloths(same) + Check.vats(same));
        }
    }

    /** Just at the slip, and below it. */
    private static void drawnDip() {
        int z = 12345;
        int second = drawn(next(next(z))) % 100;
        for (int slip = 0; slip <= 99; slip++) {
            IntentVats x = Check.told("cloth hung; cloth hung;");
            x.set(3, slip);
            x.seed(z);
            x.day();
            check.due("slip " + slip, x.of(0, 4) + x.of(1, 4), second < slip ? 1 : 0);
        }
    }

    private static void luck() {
        IntentVats x = Check.told("felt about 0 deep 20; cloth; linen about 3 deep 9 hung; shroud; slip 60;");
        String text = "felt about 0 deep 20; cloth; linen about 3 deep 9 hung; shroud; slip 60;";
        for (int n = 1; n <= 30; n++) {
            int start = n * 1234567;
            x.seed(start);
            int plain = Check.told(text).days(1);
            int z = start;
            int lucky = 0;
            for (int i = 0; i < n; i++) {
                IntentVats y = Check.told(text);
                y.seed(z);
                if (y.day() > plain) lucky++;
                z = Check.z(y);
            }
            check.due("luck(" + n + ")", x.luck(n), lucky);
            check.due("z stays", Check.z(x), start);
        }
        check.due("luck was seen", x.luck(30) > 0 && x.luck(30) < 30 ? 1 : 0, 1);
        check.refused("luck(0)", x, () -> x.luck(0), -1);
        check.due("luck(31)", x.luck(31), -1);
        check.due("nothing changes", x.state(0), 0);
        check.due("no cloths", new IntentVats().luck(5), 0);
    }

    private static void state() {
        IntentVats x = Check.told("cloth about 3; wool about 3; linen about 4; felt; muslin about 9 deep 7 hung; muslin hung; wool about 0 deep 1;");
        check.due("vat", x.state(1), 1);
        check.due("hung", x.state(2), 48);
        check.due("about", x.state(3), 1 + 2 + 4 + 16 + 64);
        check.due("all", x.state(4), 68);
        check.due("odds among", x.state(5), 5);
        x.hang(2, 1);
        check.due("odds among", x.state(5), 2);
        x.hang(4, 0);
        check.due("odds among", x.state(5), 5);
        x.days(5);
        check.due("day", x.state(0), 5);
        check.due("vat", x.state(1), 6);
        x.roster(5, -1);
        check.due("no vat", x.state(1), 0);
        x.days(1);
        check.due("vat", x.state(1), 1);
        check.refused("state(6)", x, () -> x.state(6), -1);
        check.due("state(-1)", x.state(-1), -1);
    }
}
