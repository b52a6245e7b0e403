/** The vats at Kettle Mill: cloths are dipped in purposes, fight them, hang and fade. */
public final class IntentVats {
    public static final int BAD = -1, FULL = -2, NONE = -3;

    private static final int NO_ROW = -9;
    private static final int NOTHING_THERE = -11;
    private static final int OUTSIDE = -12;
    private static final int OTHER_SORT = -13;
    private static final int SIZE_BELOW_0 = -14;
    private static final int PARTED_BY_0 = -15;
    private static final int TEXT_FAULT = -100;

    private static final int MORDANT = 0, LIGHT = 1, QUARREL = 2, SLIP = 3;
    private static final int LAWS = 4;
    private static final int WOOL = 1, LINEN = 2, FELT = 3, SHROUD = 4, MUSLIN = 5;
    private static final int KINDS = 6;
    private static final int VATS = 8;
    private static final int RESTS = 6;
    private static final int MOST_CLOTHS = 8;
    private static final int MOST_PURPOSE = 9;
    private static final int MOST_STRENGTH = 9;
    private static final int MOST_DEEP = 99;
    private static final int MOST_DIPS = 9999;
    private static final int MOST_DAYS = 60;
    private static final int SHEETS = 4;
    private static final int SHELVES = 4;
    private static final int SORTS = 4;
    private static final int MOST_ITEMS = 40;
    private static final int MOST_ROWS = 10;
    private static final int MOST_BYTES = 200;
    private static final int MOST_TRACE = 30;
    /** What a cloth is about, or what vat a rest has, when there is none. */
    private static final int NO_THING = -1;

    private final Mill now;
    private final Mill told;
    private final Mill kept;
    private boolean isKept;
    private final Forecast forecast;
    private final Tape tape;
    private final Rows rows;
    private final SheetRow[] sheets;
    private final Shelves shelves;
    private final Acts acts;

    public IntentVats() {
        now = new Mill();
        told = new Mill();
        kept = new Mill();
        isKept = false;
        forecast = new Forecast();
        tape = new Tape();
        rows = new Rows();
        sheets = new SheetRow[SHEETS];
        shelves = new Shelves();
        acts = new Acts();
    }

    // ---- the text ----

    public int feed(long eight, int n) {
        if (!isIn(n, 1, 8)) return BAD;
        if (n > tape.room()) return FULL;
        tape.take(eight, n);
        return tape.length;
    }

    public int mill() {
        int fault = tape.readInto(told);
        tape.useUp();
        if (fault >= 0) return TEXT_FAULT - fault;
        told.z = now.z;
        now.copyFrom(told);
        rows.count = 0;
        return now.count;
    }

    // ---- laws, vats, the roster ----

    public int set(int law, int v) {
        if (!isIn(law, 0, LAWS - 1) || !isIn(v, 0, mostOfLaw(law))) return BAD;
        int was = now.laws[law];
        now.laws[law] = v;
        return was;
    }

    public int lawOf(int law) {
        return isIn(law, 0, LAWS - 1) ? now.laws[law] : BAD;
    }

    public int fill(int vat, int what, int v) {
        if (!isVat(vat) || !isIn(what, 0, 1)) return BAD;
        if (!isIn(v, 0, what == 0 ? MOST_PURPOSE : MOST_STRENGTH)) return BAD;
        int[] filled = what == 0 ? now.purposes : now.strengths;
        int was = filled[vat];
        filled[vat] = v;
        return was;
    }

    public int vatOf(int vat, int what) {
        if (!isVat(vat) || !isIn(what, 0, 1)) return BAD;
        return what == 0 ? now.purposes[vat] : now.strengths[vat];
    }

    public int roster(int rest, int vat) {
        if (!isRest(rest)) return BAD;
        if (vat != NO_THING && !isVat(vat)) return BAD;
        int was = now.roster[rest];
        now.roster[rest] = vat;
        return 1 + was;
    }

    public int rosterOf(int rest) {
        return isRest(rest) ? 1 + now.roster[rest] : BAD;
    }

    // ---- cloths ----

    public int cloth(int kind) {
        if (!isKind(kind)) return BAD;
        if (now.count >= MOST_CLOTHS) return FULL;
        return now.addCloth(kind);
    }

    public int of(int cloth, int what) {
        if (!now.has(cloth)) return BAD;
        switch (what) {
            case 0: return now.kinds[cloth];
            case 1: return 1 + now.abouts[cloth];
            case 2: return now.deeps[cloth];
            case 3: return now.hungs[cloth];
            case 4: return now.dips[cloth];
            default: return BAD;
        }
    }

    public int does(int cloth, int vat, int what) {
        if (!now.has(cloth) || !isVat(vat)) return BAD;
        switch (what) {
            case 0: return 1000 + now.takes(cloth, vat);
            case 1: return 1000 + now.fights(cloth, vat);
            case 2: return 1000 + now.fades(cloth);
            default: return BAD;
        }
    }

    public int mind(int cloth, int kind) {
        if (!now.has(cloth) || !isKind(kind)) return BAD;
        int was = now.kinds[cloth];
        now.kinds[cloth] = kind;
        return was;
    }

    public int steep(int cloth, int purpose, int deep) {
        if (!now.has(cloth)) return BAD;
        boolean bares = purpose == NO_THING && deep == 0;
        if (!bares && !(isPurpose(purpose) && isIn(deep, 1, MOST_DEEP))) return BAD;
        int was = now.abouts[cloth];
        now.abouts[cloth] = purpose;
        now.deeps[cloth] = deep;
        return 1 + was;
    }

    public int hang(int cloth, int v) {
        if (!now.has(cloth) || !isIn(v, 0, 1)) return BAD;
        int was = now.hungs[cloth];
        now.hungs[cloth] = v;
        return was;
    }

    public int dip(int cloth, int vat) {
        if (!now.has(cloth) || !isVat(vat)) return BAD;
        now.dipInto(cloth, vat);
        return 1 + now.abouts[cloth];
    }

    // ---- days ----

    public int days(int n) {
        if (!isIn(n, 1, MOST_DAYS)) return BAD;
        now.passDays(n);
        return now.allDepths();
    }

    public int seed(int v) {
        int was = now.z;
        now.z = v;
        return was;
    }

    public int day() {
        now.passDrawnDay();
        return now.allDepths();
    }

    public int luck(int n) {
        return isIn(n, 1, 30) ? forecast.luckyDays(now, n) : BAD;
    }

    public int state(int what) {
        switch (what) {
            case 0: return now.day;
            case 1: return 1 + now.vatOfToday();
            case 2: return now.hungSet();
            case 3: return now.aboutSet();
            case 4: return now.allDepths();
            case 5: return now.oddPairs();
            default: return BAD;
        }
    }

    // ---- what is tried ----

    public int gone(int cloth, int n) {
        if (!now.has(cloth) || !isDays(n)) return BAD;
        return 1 + forecast.behind(now, n).abouts[cloth];
    }

    public int depth(int cloth, int n) {
        if (!now.has(cloth) || !isDays(n)) return BAD;
        return forecast.behind(now, n).deeps[cloth];
    }

    public int comes(int cloth, int purpose) {
        if (!now.has(cloth) || !isPurpose(purpose)) return BAD;
        return forecast.daysUntilAbout(now, cloth, purpose);
    }

    public int bare(int cloth) {
        return now.has(cloth) ? forecast.daysUntilAbout(now, cloth, NO_THING) : BAD;
    }

    public int spoilt(int n) {
        return isDays(n) ? forecast.spoiltBehind(now, n) : BAD;
    }

    public int through(int cloth, int purpose) {
        if (!now.has(cloth) || !isPurpose(purpose)) return BAD;
        return forecast.vatsThrough(now, cloth, purpose);
    }

    public int vatFor(int rest, int n) {
        if (!isRest(rest) || !isIn(n, 1, 40)) return BAD;
        return forecast.deepestVat(now, rest, n);
    }

    public int kindFor(int cloth, int n) {
        if (!now.has(cloth) || !isIn(n, 1, 40)) return BAD;
        return forecast.deepestKind(now, cloth, n);
    }

    public int strengthFor(int vat, int cloth, int purpose, int n) {
        if (!isVat(vat) || !now.has(cloth)) return BAD;
        if (!isPurpose(purpose) || !isIn(n, 1, 40)) return BAD;
        return forecast.leastStrength(now, vat, cloth, purpose, n);
    }

    public int hangFor(int n, int v) {
        if (!isIn(n, 1, 30) || !isIn(v, 0, MOST_CLOTHS)) return BAD;
        return forecast.fewestHung(now, n, v);
    }

    public int fits(int sheet, int cloth, int what) {
        if (!isSheet(sheet) || !now.has(cloth) || !isIn(what, 0, 1)) return BAD;
        SheetRow depths = sheets[sheet];
        if (depths == null) return NOTHING_THERE;
        if (what == 0) return forecast.manyFitting(now, cloth, depths);
        return forecast.leastFitting(now, cloth, depths);
    }

    // ---- odds ----

    public long odds(int n, int k, int part) {
        if (!isIn(n, 0, MOST_CLOTHS) || !isIn(k, 0, n) || !isIn(part, 0, 1)) return BAD;
        return Chances.justSlip(n, k, now.laws[SLIP], part);
    }

    public long hope(int n, int part) {
        if (!isIn(n, 0, 99) || !isIn(part, 0, 1)) return BAD;
        return Chances.partOf((long) n * now.laws[SLIP], 100, part);
    }

    // ---- rows of days ----

    public int prove(int cloth, int n) {
        if (!now.has(cloth) || !isIn(n, 1, MOST_ROWS)) return BAD;
        forecast.writeRows(now, cloth, n, rows);
        return n;
    }

    public int row(int i, int what) {
        return rows.has(i, what) ? rows.read(i, what) : NO_ROW;
    }

    public int alterRow(int i, int what, int v) {
        if (!rows.has(i, what)) return NO_ROW;
        int was = rows.read(i, what);
        rows.write(i, what, v);
        return was;
    }

    public int judge(int cloth) {
        return now.has(cloth) ? forecast.firstWrongRow(now, cloth, rows) : BAD;
    }

    // ---- sheets ----

    public int minds(int sheet, int i, int cloth, int n) {
        if (!isSheet(sheet) || !now.has(cloth)) return BAD;
        if (!isIn(n, 0, MOST_CLOTHS) || n > now.count - cloth) return BAD;
        SheetRow from = sheets[sheet];
        if (from == null) return NOTHING_THERE;
        if (from.sort != SheetRow.BYTES) return OTHER_SORT;
        if (!isIn(i, 0, from.size()) || n > from.size() - i) return OUTSIDE;
        for (int k = 0; k < n; k++) now.deepen(cloth + k, from.read(i + k));
        return n;
    }

    public int sheet(int sheet, int sort, int n) {
        if (!isSheet(sheet) || !isIn(sort, -1, SORTS - 1)) return BAD;
        if (sort == -1) {
            sheets[sheet] = null;
            return 1;
        }
        if (n > MOST_ITEMS) return BAD;
        if (n < 0) return SIZE_BELOW_0;
        sheets[sheet] = new SheetRow(sort, n);
        return 1;
    }

    public int put(int sheet, int i, int v) {
        if (!isSheet(sheet)) return BAD;
        SheetRow into = sheets[sheet];
        if (into == null) return NOTHING_THERE;
        if (!into.has(i)) return OUTSIDE;
        into.write(i, v);
        return 1;
    }

    public int item(int sheet, int sort, int i) {
        if (!isSheet(sheet) || !isIn(sort, 0, SORTS - 1)) return BAD;
        SheetRow from = sheets[sheet];
        if (from == null) return NOTHING_THERE;
        if (from.sort != sort) return OTHER_SORT;
        return from.has(i) ? from.read(i) : OUTSIDE;
    }

    // ---- shelves and acts ----

    public int shelf(int shelf, int what, int n) {
        if (!isShelf(shelf)) return BAD;
        switch (what) {
            case 0:
                if (!now.has(n)) return BAD;
                shelves.holdCloth(shelf, n);
                return 1;
            case 1:
                if (!isSheet(n)) return BAD;
                shelves.holdRow(shelf, sheets[n]);
                return 1;
            case 2:
                shelves.holdRow(shelf, null);
                return 1;
            default:
                return BAD;
        }
    }

    public int taken(int shelf, int as) {
        if (!isShelf(shelf)) return BAD;
        if (!isKind(as) && !isIn(as, 10, 10 + SORTS - 1)) return BAD;
        SheetRow held = shelves.rowOn(shelf);
        if (held != null) return held.sort == as - 10 ? held.size() : OTHER_SORT;
        int number = shelves.clothOn(shelf);
        if (!now.has(number)) return NOTHING_THERE;
        return isUnder(now.kinds[number], as) ? number : OTHER_SORT;
    }

    public int act(int shelf, int act, int x) {
        acts.forget();
        if (!isShelf(shelf) || !isIn(act, 0, Acts.ACTS - 1)) return 0;
        int number = shelves.clothOn(shelf);
        if (!now.has(number)) return 0;
        acts.hold(now.kinds[number], number, 1 + now.abouts[number]);
        return acts.perform(act, x);
    }

    public int trace(int i) {
        return isIn(i, 0, acts.traced - 1) ? acts.bodies[i] : NONE;
    }

    // ---- how many; what is kept ----

    public int many(int what) {
        switch (what) {
            case 0: return now.count;
            case 1: return Integer.bitCount(now.hungSet());
            case 2: return Integer.bitCount(now.aboutSet());
            case 3: return Integer.bitCount(now.purposeSet());
            case 4: return rows.count;
            case 5: return tape.length;
            case 6: return acts.traced;
            default: return BAD;
        }
    }

    public int keep() {
        kept.copyFrom(now);
        isKept = true;
        return 1;
    }

    public int again() {
        if (!isKept) return NONE;
        now.copyFrom(kept);
        return now.count;
    }

    // ---- what there is ----

    private static boolean isIn(int v, int least, int most) {
        return least <= v && v <= most;
    }

    private static boolean isVat(int vat) {
        return isIn(vat, 0, VATS - 1);
    }

    private static boolean isRest(int rest) {
        return isIn(rest, 0, RESTS - 1);
    }

    private static boolean isKind(int kind) {
        return isIn(kind, 0, KINDS - 1);
    }

    private static boolean isPurpose(int purpose) {
        return isIn(purpose, 0, MOST_PURPOSE);
    }

    private static boolean isDays(int n) {
        return isIn(n, 0, MOST_DAYS);
    }

    private static boolean isSheet(int sheet) {
        return isIn(sheet, 0, SHEETS - 1);
    }

    private static boolean isShelf(int shelf) {
        return isIn(shelf, 0, SHELVES - 1);
    }

    private static int mostOfLaw(int law) {
        return law == SLIP ? 99 : 9;
    }

    private static int parentKind(int kind) {
        switch (kind) {
            case WOOL:
            case LINEN:
            case MUSLIN: return 0;
            case FELT: return WOOL;
            case SHROUD: return LINEN;
            default: return NO_THING;
        }
    }

    private static boolean isUnder(int kind, int upper) {
        int k = kind;
        for (int i = 0; i < KINDS && k != NO_THING; i++) {
            if (k == upper) return true;
            k = parentKind(k);
        }
        return false;
    }

    /** All that days work on: what is kept by keep() and told by a text. */
    private static final class Mill {
        final int[] laws = new int[LAWS];
        final int[] purposes = new int[VATS];
        final int[] strengths = new int[VATS];
        final int[] roster = new int[RESTS];
        final int[] kinds = new int[MOST_CLOTHS];
        final int[] abouts = new int[MOST_CLOTHS];
        final int[] deeps = new int[MOST_CLOTHS];
        final int[] hungs = new int[MOST_CLOTHS];
        final int[] dips = new int[MOST_CLOTHS];
        int count;
        int day;
        int z;

        Mill() {
            z = 1;
            becomeFirst();
        }

        /** As at first, but for z, which a text leaves as it is. */
        void becomeFirst() {
            laws[MORDANT] = 3;
            laws[LIGHT] = 2;
            laws[QUARREL] = 4;
            laws[SLIP] = 20;
            for (int vat = 0; vat < VATS; vat++) {
                purposes[vat] = vat;
                strengths[vat] = 5;
            }
            for (int rest = 0; rest < RESTS; rest++) roster[rest] = rest;
            count = 0;
            day = 0;
        }

        void copyFrom(Mill other) {
            System.arraycopy(other.laws, 0, laws, 0, LAWS);
            System.arraycopy(other.purposes, 0, purposes, 0, VATS);
            System.arraycopy(other.strengths, 0, strengths, 0, VATS);
            System.arraycopy(other.roster, 0, roster, 0, RESTS);
            System.arraycopy(other.kinds, 0, kinds, 0, MOST_CLOTHS);
            System.arraycopy(other.abouts, 0, abouts, 0, MOST_CLOTHS);
            System.arraycopy(other.deeps, 0, deeps, 0, MOST_CLOTHS);
            System.arraycopy(other.hungs, 0, hungs, 0, MOST_CLOTHS);
            System.arraycopy(other.dips, 0, dips, 0, MOST_CLOTHS);
            count = other.count;
            day = other.day;
            z = other.z;
        }

        boolean has(int cloth) {
            return isIn(cloth, 0, count - 1);
        }

        /** One more cloth: its number. The caller has looked that there is room. */
        int addCloth(int kind) {
            int cloth = count;
            kinds[cloth] = kind;
            abouts[cloth] = NO_THING;
            deeps[cloth] = 0;
            hungs[cloth] = 0;
            dips[cloth] = 0;
            count++;
            return cloth;
        }

        int takes(int cloth, int vat) {
            int plain = strengths[vat] + laws[MORDANT];
            switch (kinds[cloth]) {
                case WOOL: return plain + 3;
                case LINEN: return plain - laws[LIGHT];
                case FELT: return (plain + 3) * 2;
                case SHROUD: return plain - laws[LIGHT] + laws[QUARREL];
                case MUSLIN: return plain / 2;
                default: return plain;
            }
        }

        int fights(int cloth, int vat) {
            int plain = strengths[vat];
            switch (kinds[cloth]) {
                case WOOL: return plain - laws[QUARREL];
                case LINEN: return plain + laws[QUARREL];
                case FELT: return plain - laws[QUARREL] + laws[MORDANT];
                case SHROUD: return (plain + laws[QUARREL]) * 2;
                case MUSLIN: return plain + 1;
                default: return plain;
            }
        }

        int fades(int cloth) {
            int plain = laws[LIGHT];
            switch (kinds[cloth]) {
                case WOOL: return plain - 1;
                case LINEN: return plain + 1;
                case FELT: return 0;
                case SHROUD: return (plain + 1) * 2;
                case MUSLIN: return plain + 3;
                default: return plain;
            }
        }

        void dipInto(int cloth, int vat) {
            int purpose = purposes[vat];
            int deep;
            if (abouts[cloth] == NO_THING || abouts[cloth] == purpose) {
                abouts[cloth] = purpose;
                deep = deeps[cloth] + takes(cloth, vat);
            } else {
                deep = deeps[cloth] - fights(cloth, vat);
                if (deep < 0) {
                    abouts[cloth] = purpose;
                    deep = -deep;
                }
            }
            settle(cloth, deep);
            if (dips[cloth] < MOST_DIPS) dips[cloth]++;
            if (strengths[vat] > 0) strengths[vat]--;
        }

        /** Holds how deep one is to 0 to 99; at 0 it is about nothing. */
        void settle(int cloth, int deep) {
            if (deep <= 0) {
                deeps[cloth] = 0;
                abouts[cloth] = NO_THING;
            } else {
                deeps[cloth] = deep < MOST_DEEP ? deep : MOST_DEEP;
            }
        }

        void deepen(int cloth, int deep) {
            if (abouts[cloth] != NO_THING) settle(cloth, deep);
        }

        int vatOfToday() {
            return roster[day % RESTS];
        }

        void passDays(int n) {
            for (int i = 0; i < n; i++) passDay();
        }

        void passDay() {
            int vat = vatOfToday();
            for (int cloth = 0; cloth < count && vat != NO_THING; cloth++) {
                if (hungs[cloth] == 0) dipInto(cloth, vat);
            }
            for (int cloth = 0; cloth < count; cloth++) {
                if (hungs[cloth] == 1) deepen(cloth, deeps[cloth] - fades(cloth));
            }
            for (int i = 0; i < VATS; i++) {
                if (strengths[i] < MOST_STRENGTH) strengths[i]++;
            }
            day++;
        }

        int draw() {
            z = z * 1103515245 + 12345;
            return z >>> 16;
        }

        void passDrawnDay() {
            if (count > 0) {
                int cloth = draw() % count;
                if (draw() % 100 < laws[SLIP]) dipInto(cloth, draw() % VATS);
            }
            passDay();
        }

        int allDepths() {
            int sum = 0;
            for (int cloth = 0; cloth < count; cloth++) sum += deeps[cloth];
            return sum;
        }

        int hungSet() {
            int found = 0;
            for (int cloth = 0; cloth < count; cloth++) {
                if (hungs[cloth] == 1) found |= 1 << cloth;
            }
            return found;
        }

        int aboutSet() {
            int found = 0;
            for (int cloth = 0; cloth < count; cloth++) {
                if (abouts[cloth] != NO_THING) found |= 1 << cloth;
            }
            return found;
        }

        int purposeSet() {
            int found = 0;
            for (int cloth = 0; cloth < count; cloth++) {
                if (abouts[cloth] != NO_THING) found |= 1 << abouts[cloth];
            }
            return found;
        }

        int oddPairs() {
            int pairs = 0;
            for (int one = 0; one < count; one++) {
                for (int other = one + 1; other < count; other++) {
                    if (abouts[one] != abouts[other] && isForOdds(one) && isForOdds(other)) pairs++;
                }
            }
            return pairs;
        }

        private boolean isForOdds(int cloth) {
            return hungs[cloth] == 0 && abouts[cloth] != NO_THING;
        }
    }

    /** Tries what would be on a mill of its own; the mill that it is asked of stays as it is. */
    private static final class Forecast {
        private final Mill tried = new Mill();

        /** The mill as it would be n days on; good until the next question. */
        Mill behind(Mill now, int n) {
            tried.copyFrom(now);
            tried.passDays(n);
            return tried;
        }

        int luckyDays(Mill now, int n) {
            int plain = behind(now, 1).allDepths();
            int z = now.z;
            int lucky = 0;
            for (int i = 0; i < n; i++) {
                tried.copyFrom(now);
                tried.z = z;
                tried.passDrawnDay();
                z = tried.z;
                if (tried.allDepths() > plain) lucky++;
            }
            return lucky;
        }

        int daysUntilAbout(Mill now, int cloth, int thing) {
            tried.copyFrom(now);
            for (int n = 0; n <= MOST_DAYS; n++) {
                if (tried.abouts[cloth] == thing) return n;
                tried.passDay();
            }
            return NONE;
        }

        int spoiltBehind(Mill now, int n) {
            tried.copyFrom(now);
            return spoiltFromHere(now, n);
        }

        private int spoiltFromHere(Mill now, int n) {
            tried.passDays(n);
            int spoilt = 0;
            for (int cloth = 0; cloth < now.count; cloth++) {
                if (tried.abouts[cloth] != now.abouts[cloth]) spoilt++;
            }
            return spoilt;
        }

        int vatsThrough(Mill now, int cloth, int purpose) {
            tried.copyFrom(now);
            int ways = 1;
            for (int length = 0; length <= 3; length++) {
                for (int way = 0; way < ways; way++) {
                    if (leadsTo(now, cloth, purpose, length, way)) return ways + way;
                }
                ways *= VATS;
            }
            return NONE;
        }

        /** A way is its vats as digits in eights, the first vat the highest. */
        private boolean leadsTo(Mill now, int cloth, int purpose, int length, int way) {
            System.arraycopy(now.strengths, 0, tried.strengths, 0, VATS);
            tried.abouts[cloth] = now.abouts[cloth];
            tried.deeps[cloth] = now.deeps[cloth];
            for (int i = length - 1; i >= 0; i--) tried.dipInto(cloth, way >> 3 * i & 7);
            return tried.abouts[cloth] == purpose;
        }

        int deepestVat(Mill now, int rest, int n) {
            int best = 0;
            int deepest = -1;
            for (int vat = 0; vat < VATS; vat++) {
                tried.copyFrom(now);
                tried.roster[rest] = vat;
                tried.passDays(n);
                int deep = tried.allDepths();
                if (deep > deepest) {
                    deepest = deep;
                    best = vat;
                }
            }
            return best;
        }

        int deepestKind(Mill now, int cloth, int n) {
            int best = 0;
            int deepest = -1;
            for (int kind = 0; kind < KINDS; kind++) {
                tried.copyFrom(now);
                tried.kinds[cloth] = kind;
                tried.passDays(n);
                if (tried.deeps[cloth] > deepest) {
                    deepest = tried.deeps[cloth];
                    best = kind;
                }
            }
            return best;
        }

        int leastStrength(Mill now, int vat, int cloth, int purpose, int n) {
            for (int strength = 0; strength <= MOST_STRENGTH; strength++) {
                tried.copyFrom(now);
                tried.strengths[vat] = strength;
                tried.passDays(n);
                if (tried.abouts[cloth] == purpose) return strength;
            }
            return NONE;
        }

        int fewestHung(Mill now, int n, int most) {
            int sets = 1 << now.count;
            for (int size = 0; size <= now.count; size++) {
                for (int hung = 0; hung < sets; hung++) {
                    if (Integer.bitCount(hung) != size) continue;
                    hangJust(now, hung);
                    if (spoiltFromHere(now, n) <= most) return hung;
                }
            }
            return NONE;
        }

        private void hangJust(Mill now, int hung) {
            tried.copyFrom(now);
            for (int cloth = 0; cloth < now.count; cloth++) tried.hungs[cloth] = hung >> cloth & 1;
        }

        int manyFitting(Mill now, int cloth, SheetRow depths) {
            if (now.deeps[cloth] == 0) return fitsAs(now, cloth, NO_THING, depths) ? 1 : 0;
            int fitting = 0;
            for (int purpose = 0; purpose <= MOST_PURPOSE; purpose++) {
                if (fitsAs(now, cloth, purpose, depths)) fitting++;
            }
            return fitting;
        }

        /** 1 and the least purpose, 0 for nothing. */
        int leastFitting(Mill now, int cloth, SheetRow depths) {
            if (now.deeps[cloth] == 0) return fitsAs(now, cloth, NO_THING, depths) ? 0 : NONE;
            for (int purpose = 0; purpose <= MOST_PURPOSE; purpose++) {
                if (fitsAs(now, cloth, purpose, depths)) return 1 + purpose;
            }
            return NONE;
        }

        private boolean fitsAs(Mill now, int cloth, int thing, SheetRow depths) {
            tried.copyFrom(now);
            tried.abouts[cloth] = thing;
            int size = depths.size();
            for (int i = 0; i < size; i++) {
                tried.passDay();
                int deep = depths.read(i);
                if (deep != -1 && deep != tried.deeps[cloth]) return false;
            }
            return true;
        }

        void writeRows(Mill now, int cloth, int n, Rows rows) {
            tried.copyFrom(now);
            rows.count = n;
            for (int i = 0; i < n; i++) {
                tried.passDay();
                for (int what = 0; what < Rows.WIDTH; what++) rows.write(i, what, rowPart(cloth, what));
            }
        }

        /** The first row that isn't as it must be, and 1 more; 0 if all are. */
        int firstWrongRow(Mill now, int cloth, Rows rows) {
            tried.copyFrom(now);
            for (int i = 0; i < rows.count; i++) {
                tried.passDay();
                for (int what = 0; what < Rows.WIDTH; what++) {
                    if (rows.read(i, what) != rowPart(cloth, what)) return i + 1;
                }
            }
            return 0;
        }

        private int rowPart(int cloth, int what) {
            switch (what) {
                case 0: return 1 + tried.abouts[cloth];
                case 1: return tried.deeps[cloth];
                default: return tried.allDepths();
            }
        }
    }

    /** Fractions without a common divisor. */
    private static final class Chances {
        static long justSlip(int n, int k, int slip, int part) {
            long above = choices(n, k);
            long below = 1;
            for (int i = 0; i < n; i++) {
                above *= i < k ? slip : 100 - slip;
                below *= 100;
            }
            return partOf(above, below, part);
        }

        private static long choices(int n, int k) {
            long ways = 1;
            for (int i = 1; i <= k; i++) ways = ways * (n - k + i) / i;
            return ways;
        }

        /** Part 0 is above the line, 1 below it. */
        static long partOf(long above, long below, int part) {
            long shared = commonDivisor(above, below);
            if (shared == 0) return part;
            return (part == 0 ? above : below) / shared;
        }

        private static long commonDivisor(long a, long b) {
            long high = a;
            long low = b;
            for (int i = 0; i < 200 && low != 0; i++) {
                long rest = high % low;
                high = low;
                low = rest;
            }
            return high;
        }
    }

    /** The bytes that were fed, and the reading of a text in them. */
    private static final class Tape {
        private static final int END = 0, NAME = 1, NUMBER = 2, OTHER = 3;
        private static final int BLANK = 32;
        private static final int NO_FAULT = -1;
        private static final int NO_NUMBER = 1000;
        private static final int MOST_DIGITS = 3;
        private static final int DEEP_AT_FIRST = 20;

        private final int[] bytes = new int[MOST_BYTES];
        private int length;
        private int at;
        /** Where the latest word begins; of what sort it is; its number. */
        private int start;
        private int sort;
        private int number;

        int room() {
            return MOST_BYTES - length;
        }

        /** The caller has looked that there is room. */
        void take(long eight, int n) {
            for (int i = 0; i < n; i++) bytes[length + i] = (int) (eight >> 8 * i & 255);
            length += n;
        }

        void useUp() {
            length = 0;
        }

        /** Makes a mill what the text tells: the place of the fault, or -1. */
        int readInto(Mill mill) {
            mill.becomeFirst();
            at = 0;
            for (int i = 0; i <= length; i++) {
                readWord();
                if (sort == END) return NO_FAULT;
                if (!readStatement(mill)) return start;
            }
            return NO_FAULT;
        }

        // Each reader below is false at a fault, and leaves start where that is.

        private boolean readStatement(Mill mill) {
            int kind = kindNamed();
            if (kind >= 0) return readCloth(mill, kind);
            if (isName("vat")) return readVat(mill);
            if (isName("strong")) return readStrong(mill);
            if (isName("day")) return readDay(mill);
            int law = lawNamed();
            return law >= 0 && readLaw(mill, law);
        }

        private boolean readCloth(Mill mill, int kind) {
            if (mill.count >= MOST_CLOTHS) return false;
            int cloth = mill.addCloth(kind);
            readWord();
            if (isName("about")) {
                if (!readNumber(0, MOST_PURPOSE)) return false;
                mill.abouts[cloth] = number;
                mill.deeps[cloth] = DEEP_AT_FIRST;
                readWord();
                if (isName("deep")) {
                    if (!readNumber(1, MOST_DEEP)) return false;
                    mill.deeps[cloth] = number;
                    readWord();
                }
            }
            if (isName("hung")) {
                mill.hungs[cloth] = 1;
                readWord();
            }
            return isStop();
        }

        private boolean readVat(Mill mill) {
            if (!readNumber(0, VATS - 1)) return false;
            int vat = number;
            if (!readName("of") || !readNumber(0, MOST_PURPOSE)) return false;
            mill.purposes[vat] = number;
            return readStop();
        }

        private boolean readStrong(Mill mill) {
            if (!readNumber(0, VATS - 1)) return false;
            int vat = number;
            if (!readNumber(0, MOST_STRENGTH)) return false;
            mill.strengths[vat] = number;
            return readStop();
        }

        private boolean readDay(Mill mill) {
            if (!readNumber(0, RESTS - 1)) return false;
            int rest = number;
            if (!readName("vat") || !readNumber(0, VATS - 1)) return false;
            mill.roster[rest] = number;
            return readStop();
        }

        private boolean readLaw(Mill mill, int law) {
            if (!readNumber(0, mostOfLaw(law))) return false;
            mill.laws[law] = number;
            return readStop();
        }

        private boolean readNumber(int least, int most) {
            readWord();
            return sort == NUMBER && isIn(number, least, most);
        }

        private boolean readName(String name) {
            readWord();
            return isName(name);
        }

        private boolean readStop() {
            readWord();
            return isStop();
        }

        private boolean isStop() {
            return sort == OTHER && bytes[start] == ';';
        }

        private int kindNamed() {
            if (isName("cloth")) return 0;
            if (isName("wool")) return WOOL;
            if (isName("linen")) return LINEN;
            if (isName("felt")) return FELT;
            if (isName("shroud")) return SHROUD;
            return isName("muslin") ? MUSLIN : NO_THING;
        }

        private int lawNamed() {
            if (isName("mordant")) return MORDANT;
            if (isName("light")) return LIGHT;
            if (isName("quarrel")) return QUARREL;
            return isName("slip") ? SLIP : NO_THING;
        }

        private boolean isName(String name) {
            if (sort != NAME || at - start != name.length()) return false;
            for (int i = 0; i < name.length(); i++) {
                if (bytes[start + i] != name.charAt(i)) return false;
            }
            return true;
        }

        /** The next name, number, other byte or the end. */
        private void readWord() {
            while (at < length && bytes[at] == BLANK) at++;
            start = at;
            if (at >= length) {
                sort = END;
            } else if (isIn(bytes[at], 'a', 'z')) {
                sort = NAME;
                while (at < length && isIn(bytes[at], 'a', 'z')) at++;
            } else if (isIn(bytes[at], '0', '9')) {
                sort = NUMBER;
                readDigits();
            } else {
                sort = OTHER;
                at++;
            }
        }

        private void readDigits() {
            number = 0;
            while (at < length && bytes[at] >= '0' && bytes[at] <= '9') {
                if (at - start < MOST_DIGITS) number = number * 10 + bytes[at] - '0';
                at++;
            }
            if (at - start > MOST_DIGITS) number = NO_NUMBER;
        }
    }

    /** Rows of days of one cloth. */
    private static final class Rows {
        static final int WIDTH = 3;

        private final int[] parts = new int[MOST_ROWS * WIDTH];
        int count;

        boolean has(int i, int what) {
            return isIn(i, 0, count - 1) && isIn(what, 0, WIDTH - 1);
        }

        int read(int i, int what) {
            return parts[i * WIDTH + what];
        }

        void write(int i, int what, int v) {
            parts[i * WIDTH + what] = v;
        }
    }

    /** A sheet's row. Items come as ints, so that ints hold those of longs too. */
    private static final class SheetRow {
        static final int BYTES = 0, SHORTS = 1;

        final int sort;
        private final int[] items;

        /** The caller has looked that the size is 0 or more. */
        SheetRow(int sort, int size) {
            this.sort = sort;
            this.items = new int[size];
        }

        int size() {
            return items.length;
        }

        boolean has(int i) {
            return isIn(i, 0, items.length - 1);
        }

        int read(int i) {
            return items[i];
        }

        void write(int i, int v) {
            if (sort == BYTES) items[i] = (byte) v;
            else if (sort == SHORTS) items[i] = (short) v;
            else items[i] = v;
        }
    }

    /** What the shelves hold: a cloth by its number, a row itself, or nothing. */
    private static final class Shelves {
        private final int[] cloths = new int[SHELVES];
        private final SheetRow[] held = new SheetRow[SHELVES];

        Shelves() {
            for (int i = 0; i < SHELVES; i++) cloths[i] = NO_THING;
        }

        void holdCloth(int i, int cloth) {
            cloths[i] = cloth;
            held[i] = null;
        }

        void holdRow(int i, SheetRow row) {
            cloths[i] = NO_THING;
            held[i] = row;
        }

        int clothOn(int i) {
            return cloths[i];
        }

        SheetRow rowOn(int i) {
            return held[i];
        }
    }

    /** The acts of a thing, by the numbers of their bodies, and the trace of these. */
    private static final class Acts {
        static final int ACTS = 4;
        private static final int RUBS = 0, STEEPS = 1, PARTS = 2;
        private static final int DEEPEST = 20;
        /** Of each kind the bodies of its four acts. */
        private static final int[] BODIES = {
            10, 11, 12, 13,
            10, 20, 12, 13,
            30, 11, 12, 31,
            51, 20, 50, 13,
            40, 41, 12, 31,
            10, 11, 61, 60
        };

        final int[] bodies = new int[MOST_TRACE];
        int traced;
        private int kind;
        private int n;
        private int a;
        /** Parted by 0: no body begins any more. */
        private boolean broken;

        void forget() {
            traced = 0;
        }

        void hold(int kind, int number, int about) {
            this.kind = kind;
            this.n = number;
            this.a = about;
        }

        int perform(int act, int x) {
            broken = false;
            int answer = own(act, x, 0);
            return broken ? PARTED_BY_0 : answer;
        }

        private int own(int act, int x, int depth) {
            return body(BODIES[kind * ACTS + act], x, depth + 1);
        }

        private int body(int number, int x, int depth) {
            if (broken || depth > DEEPEST) return 0;
            note(number);
            switch (number) {
                case 10: return x * 5 + n;
                case 11: return own(RUBS, x, depth) + a * 9;
                case 12: return parted(x, a - n);
                case 13: return own(STEEPS, x, depth) ^ 240;
                case 20: return body(11, x, depth + 1) - 6;
                case 30: return body(10, x, depth + 1) * 2;
                case 31: return body(13, x, depth + 1) + own(PARTS, n, depth);
                case 40: return 0 - body(30, x, depth + 1);
                case 41: return body(11, x, depth + 1) ^ own(RUBS, a, depth);
                case 50: return body(12, x + 3, depth + 1) + a;
                case 51: return body(10, x, depth + 1) - 2;
                case 60: return body(13, x, depth + 1) * 3;
                case 61: return body(12, x, depth + 1) - own(RUBS, n, depth);
                default: return 0;
            }
        }

        private int parted(int x, int by) {
            if (by == 0) {
                broken = true;
                return 0;
            }
            return x / by;
        }

        private void note(int number) {
            if (traced < MOST_TRACE) bodies[traced++] = number;
        }
    }
}
