import java.util.Arrays;

/** An empire that counts its people by the spoons they hand in on one night. */
public final class SpoonCensus {
    public static final int BAD = -1, FULL = -2, FINDING = -3, STATE = -4, SPENT = -6, NONE = -9;

    private static final int NOTHING = 1, BEYOND = 2, UNLIKE = 3, NOUGHT = 4, SIZE = 5;
    private static final int ROWS = 6, ROW_MOST = 60, TEXTS = 4, TEXT_MOST = 80;
    private static final int PROVINCES = 3, PLACES = 3, LAWS = 3, KINDS = 6;
    private static final int HOUSES_MOST = 8, MOUTHS_MOST = 9, SPOONS_MOST = 30, NIGHTS_MOST = 30;
    private static final int MOVED_MOST = 9, MONEY_MOST = 99, SACK_MOST = 99, TOLD_MOST = 999;
    private static final int LED_MOST = 8, WEAR_MOST = 9, YEARS_MOST = 40;
    private static final int LEND = 0, BACK = 1, MELT = 2, BORN = 3, GONE = 4, NIGHT = 5;
    private static final int BLANK = 32, FIGURE_0 = 48, ITEM = 4, PUT_MORE = 1000;
    private static final int[] LETTERS = {104, 109, 98, 110, 103, 115};
    private static final long LOT_TIMES = 48271L, LOT_MODULUS = 2147483647L;

    private final Sheet[] rows = new Sheet[ROWS];
    private final Sheet[] texts = new Sheet[TEXTS];
    private final Land land;
    private final Land[] kept = new Land[PLACES];
    private final Deeds deeds = new Deeds();
    private final Ways sackWays = new Ways();
    private final Leading leading = new Leading();
    private final int[] hidden = new int[HOUSES_MOST];
    private final int[] foundTimes = new int[SIZE + 1];
    private int foundLast = 0;
    private int askedLast = 0;
    private long upperLast = 0;
    private long lowerLast = 1;

    public SpoonCensus() {
        for (int r = 0; r < ROWS; r++) {
            rows[r] = new Sheet(ROW_MOST);
        }
        for (int t = 0; t < TEXTS; t++) {
            texts[t] = new Sheet(TEXT_MOST);
        }
        House[] rules = {new House(), new Miser(), new Borrower(), new Nomad(), new Ghost(), new Sticks()};
        land = new Land(rules);
        for (int k = 0; k < PLACES; k++) {
            kept[k] = new Land(rules);
        }
    }

    // ---- 1 rows, texts, lands

    public int row(int r, int n) {
        if (!within(r, ROWS)) {
            return BAD;
        }
        return layOut(rows[r], n, 0);
    }

    public int lay(int r, int i, int v) {
        int answer = at(r, i);
        if (answer == 1) {
            rows[r].values[i] = v;
        }
        return answer;
    }

    public int at(int r, int i) {
        if (!within(r, ROWS)) {
            return BAD;
        }
        Sheet sheet = rows[r];
        if (!sheet.isThere()) {
            return find(NOTHING);
        }
        if (!within(i, sheet.size)) {
            return find(BEYOND);
        }
        return tell(sheet.values[i]);
    }

    public int tear(int r) {
        if (!within(r, ROWS)) {
            return BAD;
        }
        if (!rows[r].isThere()) {
            return find(NOTHING);
        }
        rows[r].size = Sheet.MISSING;
        return 1;
    }

    public int copy(int r, int i, int to, int j, int n) {
        if (!within(r, ROWS) || !within(to, ROWS)) {
            return BAD;
        }
        if (n < 0) {
            return find(SIZE);
        }
        if (!rows[r].isThere() || !rows[to].isThere()) {
            return find(NOTHING);
        }
        if (!rows[r].hasPlaces(i, n) || !rows[to].hasPlaces(j, n)) {
            return find(BEYOND);
        }
        System.arraycopy(rows[r].values, i, rows[to].values, j, n);
        return 1;
    }

    public int mean(int r) {
        if (!within(r, ROWS)) {
            return BAD;
        }
        Sheet sheet = rows[r];
        if (!sheet.isThere()) {
            return find(NOTHING);
        }
        if (sheet.size <= 0) {
            return find(NOUGHT);
        }
        long sum = 0;
        for (int i = 0; i < sheet.size; i++) {
            sum += sheet.values[i];
        }
        return tell((int) (sum / sheet.size));
    }

    public int text(int t, int n) {
        if (!within(t, TEXTS)) {
            return BAD;
        }
        return layOut(texts[t], n, BLANK);
    }

    public int put(int t, int i, int v) {
        if (!within(t, TEXTS)) {
            return BAD;
        }
        Sheet sheet = texts[t];
        if (!sheet.isThere()) {
            return find(NOTHING);
        }
        if (!within(i, sheet.size)) {
            return find(BEYOND);
        }
        int before = sheet.values[i];
        sheet.values[i] = (byte) v;
        return before + PUT_MORE;
    }

    public int fault(int t) {
        if (!within(t, TEXTS)) {
            return BAD;
        }
        if (!texts[t].isThere()) {
            return find(NOTHING);
        }
        return faultOf(texts[t]);
    }

    public int land(int t) {
        if (!within(t, TEXTS)) {
            return BAD;
        }
        if (!texts[t].isThere()) {
            return find(NOTHING);
        }
        if (faultOf(texts[t]) != NONE) {
            return STATE;
        }
        land.empty();
        settleBy(texts[t]);
        deeds.forgetAll();
        for (int k = 0; k < PLACES; k++) {
            kept[k].isKept = false;
        }
        return land.size;
    }

    public int house(int h, int what) {
        if (!within(h, land.size) || !within(what, 6)) {
            return BAD;
        }
        return tell(land.figure(h, what));
    }

    public int mark(int h, int kind) {
        if (!within(h, land.size) || kind == 0 || !within(kind, KINDS)) {
            return BAD;
        }
        House rule = land.rule(h);
        int mouths = land.mouths[h];
        int spoons = land.spoons[h];
        if (kind == 1 && rule instanceof Miser miser) {
            return miser.holdsBack(mouths, spoons, land.night);
        }
        if (kind == 2 && rule instanceof Borrower) {
            return spoons - mouths;
        }
        if (kind == 3 && rule instanceof Nomad nomad) {
            return nomad.isThere(land.night) ? 1 : 0;
        }
        if (kind == 4 && rule instanceof Ghost) {
            return land.counted(h, 1);
        }
        if (kind == 5 && rule instanceof Sticks sticks) {
            return sticks.nightsUntilThere(land.night);
        }
        return find(UNLIKE);
    }

    public int law(int v) {
        if (!within(v, LAWS)) {
            return BAD;
        }
        int before = land.law;
        land.law = v;
        return before;
    }

    // ---- 2 deeds

    public int lend(int a, int b, int n) {
        if (!areTwo(a, b) || !canMove(n)) {
            return BAD;
        }
        return lends(a, b, n) ? land.debt(a, b) : STATE;
    }

    public int back(int a, int b, int n) {
        if (!areTwo(a, b) || !canMove(n)) {
            return BAD;
        }
        if (land.debt(a, b) < n || !land.canHandOver(b, a, n)) {
            return STATE;
        }
        land.handOver(b, a, n);
        land.owe(a, b, -n);
        deeds.add(BACK, a, b, n);
        return land.debt(a, b);
    }

    public int melt(int h, int n) {
        if (!within(h, land.size) || !canMove(n)) {
            return BAD;
        }
        return melts(h, n) ? land.spoons[h] : STATE;
    }

    public int born(int h) {
        if (!within(h, land.size)) {
            return BAD;
        }
        return bears(h) ? land.mouths[h] : FULL;
    }

    public int gone(int h) {
        if (!within(h, land.size)) {
            return BAD;
        }
        return loses(h) ? land.mouths[h] : STATE;
    }

    public int night() {
        if (land.size == 0) {
            return STATE;
        }
        if (land.night >= NIGHTS_MOST) {
            return FULL;
        }
        int all = land.countedOfAll(land.law);
        land.logNight();
        deeds.add(NIGHT, 0, 0, 0);
        return all;
    }

    public int undo() {
        int place = deeds.takeLast();
        if (place < 0) {
            return STATE;
        }
        int a = deeds.first[place];
        int b = deeds.second[place];
        int n = deeds.many[place];
        switch (deeds.sort[place]) {
            case LEND:
                land.handOver(b, a, n);
                land.owe(a, b, -n);
                break;
            case BACK:
                land.handOver(a, b, n);
                land.owe(a, b, n);
                break;
            case MELT:
                land.spoons[a] += n;
                break;
            case BORN:
                land.mouths[a]--;
                land.spoons[a]--;
                break;
            case GONE:
                land.mouths[a]++;
                break;
            default:
                land.night--;
                break;
        }
        return deeds.sort[place];
    }

    public int keep(int k) {
        if (!within(k, PLACES)) {
            return BAD;
        }
        if (land.size == 0) {
            return STATE;
        }
        kept[k].takeFrom(land);
        kept[k].isKept = true;
        return land.night;
    }

    public int on(int k) {
        if (!within(k, PLACES)) {
            return BAD;
        }
        if (!kept[k].isKept) {
            return find(NOTHING);
        }
        land.takeFrom(kept[k]);
        deeds.forgetAll();
        return land.night;
    }

    // ---- 3 counts

    public int hands(int h) {
        if (!within(h, land.size)) {
            return BAD;
        }
        tell(land.counted(h, land.law));
        return land.handedIn(h);
    }

    public int sack(int p) {
        if (!within(p, PROVINCES)) {
            return BAD;
        }
        tell(land.mouthsIn(p));
        return land.countedIn(p, land.law);
    }

    public int was(int night, int p) {
        if (night < 0 || !within(p, PROVINCES)) {
            return BAD;
        }
        if (night >= land.night) {
            return find(BEYOND);
        }
        return land.logged(night, p);
    }

    public int off() {
        int together = 0;
        int sizes = 0;
        for (int h = 0; h < land.size; h++) {
            int lie = land.lie(h);
            together += lie;
            sizes += Math.abs(lie);
        }
        tellFraction(sizes, 1);
        return tell(together);
    }

    public int liar() {
        if (land.size == 0) {
            return STATE;
        }
        int liar = 0;
        for (int h = 1; h < land.size; h++) {
            if (Math.abs(land.lie(h)) > Math.abs(land.lie(liar))) {
                liar = h;
            }
        }
        tell(land.lie(liar));
        return liar;
    }

    public int best() {
        int mouths = land.mouthsOfAll();
        int best = 0;
        int least = Math.abs(land.countedOfAll(0) - mouths);
        for (int law = 1; law < LAWS; law++) {
            int size = Math.abs(land.countedOfAll(law) - mouths);
            if (size < least) {
                best = law;
                least = size;
            }
        }
        tell(least);
        return best;
    }

    // ---- 4 what a sack tells

    public int span(int p, int n) {
        if (!isSack(p, n)) {
            return BAD;
        }
        if (!sackWays.gather(land, p)) {
            return SPENT;
        }
        if (sackWays.number(n) == 0) {
            return find(NOUGHT);
        }
        tell(sackWays.mostMouths(n));
        return sackWays.fewestMouths(n);
    }

    public int ways(int p, int n) {
        if (!isSack(p, n)) {
            return BAD;
        }
        if (!sackWays.gather(land, p)) {
            return SPENT;
        }
        tellFraction(sackWays.number(n), 1);
        return 1;
    }

    public int odds(int h, int n, int m) {
        if (!within(h, land.size) || !within(n, SACK_MOST + 1) || !within(m, MOUTHS_MOST + 1)) {
            return BAD;
        }
        if (!sackWays.gather(land, land.province[h])) {
            return SPENT;
        }
        int all = sackWays.number(n);
        if (all == 0) {
            return find(NOUGHT);
        }
        tellFraction(sackWays.numberWith(sackWays.placeOf(h), m, n), all);
        return 1;
    }

    public int sure(int p, int n) {
        if (!isSack(p, n)) {
            return BAD;
        }
        if (!sackWays.gather(land, p)) {
            return SPENT;
        }
        if (sackWays.number(n) == 0) {
            return find(NOUGHT);
        }
        return sackWays.sureHouses(n);
    }

    public int lost(int night, int p, int n) {
        if (night < 0 || !within(p, PROVINCES) || !within(n, TOLD_MOST + 1)) {
            return BAD;
        }
        if (night >= land.night) {
            return find(BEYOND);
        }
        int left = n;
        for (int other = 0; other < PROVINCES; other++) {
            if (other != p) {
                left -= land.logged(night, other);
            }
        }
        if (left < 0) {
            return STATE;
        }
        tell(left == land.logged(night, p) ? 1 : 0);
        return left;
    }

    // ---- 5 taxes

    public int tax(int tax, int fine) {
        if (!within(tax, MONEY_MOST + 1) || !within(fine, MONEY_MOST + 1)) {
            return BAD;
        }
        land.tax = tax;
        land.fine = fine;
        return 1;
    }

    public int gains(int h) {
        if (!within(h, land.size)) {
            return BAD;
        }
        return tell(-land.tax * land.lie(h));
    }

    public int look() {
        measureHidden();
        int due = land.tax * hiddenBy(allHouses());
        int fewest = HOUSES_MOST + 1;
        int which = 0;
        for (int set = 0; set <= allHouses(); set++) {
            // sets come from the least on: one of the same size later is not the least
            if (Integer.bitCount(set) < fewest && land.fine * hiddenBy(set) >= due) {
                fewest = Integer.bitCount(set);
                which = set;
            }
        }
        if (fewest > HOUSES_MOST) {
            return NONE;
        }
        tell(which);
        return fewest;
    }

    public int fine(int k) {
        if (!within(k, HOUSES_MOST + 1)) {
            return BAD;
        }
        measureHidden();
        int due = land.tax * hiddenBy(allHouses());
        int found = mostHiddenBy(k);
        for (int fine = 0; fine <= MONEY_MOST; fine++) {
            if (fine * found >= due) {
                return fine;
            }
        }
        return NONE;
    }

    // ---- 6 spoons led to mouths, the next one, lots

    public int leads(int r, int bites) {
        int answer = beginLeading(r, bites);
        if (answer == 1) {
            tellFraction(leading.number(), 1);
        }
        return answer;
    }

    public int led(int r, int bites) {
        int answer = beginLeading(r, bites);
        if (answer != 1) {
            return answer;
        }
        return leading.number() == 0 ? find(NOUGHT) : leading.sureSpoons();
    }

    public int lead(int r, int bites, int to) {
        if (!within(to, ROWS)) {
            return BAD;
        }
        int answer = beginLeading(r, bites);
        if (answer != 1) {
            return answer;
        }
        if (leading.number() == 0) {
            return find(NOUGHT);
        }
        rows[to].begin(leading.size, 0);
        leading.writeFirst(rows[to].values);
        return 1;
    }

    public int most(int r, int bites) {
        int answer = beginLeading(r, bites);
        return answer == 1 ? leading.mostSpoons() : answer;
    }

    public int next(int p) {
        if (!within(p, PROVINCES)) {
            return BAD;
        }
        if (land.night < 2) {
            return STATE;
        }
        int sum = 0;
        for (int night = 0; night < land.night; night++) {
            sum += land.logged(night, p);
        }
        tellFraction(sum, land.night);
        return tell(2 * land.logged(land.night - 1, p) - land.logged(land.night - 2, p));
    }

    public int years(int n, int seed) {
        if (n < 1 || n > YEARS_MOST || seed < 1 || seed >= LOT_MODULUS) {
            return BAD;
        }
        if (land.size < 2) {
            return STATE;
        }
        int done = 0;
        long lot = seed;
        for (int year = 0; year < n; year++) {
            lot = LOT_TIMES * lot % LOT_MODULUS;
            int h = (int) (lot % land.size);
            if (happens((int) (lot / 64 % 4), h)) {
                done++;
            }
        }
        return done;
    }

    // ---- 7 what is told

    public int asked() {
        return askedLast;
    }

    public long upper() {
        return upperLast;
    }

    public long lower() {
        return lowerLast;
    }

    public int count(int what) {
        switch (what) {
            case 0:
                return land.size;
            case 1:
                return land.mouthsOfAll();
            case 2:
                return land.spoonsOfAll();
            case 3:
                return land.night;
            case 4:
                return land.borrowers();
            case 5:
                return land.nomads();
            case 6:
                return thoseThere(rows);
            case 7:
                return thoseThere(texts);
            case 8:
                return deeds.size;
            default:
                return BAD;
        }
    }

    public int finding() {
        return foundLast;
    }

    public int findings(int f) {
        if (f < 1 || f > SIZE) {
            return BAD;
        }
        return foundTimes[f];
    }

    public long digest() {
        long sum = 17;
        for (int what = 0; what <= 8; what++) {
            sum = 31 * sum + count(what);
        }
        sum = land.addTo(sum);
        for (int k = 0; k < PLACES; k++) {
            sum = 31 * sum + (kept[k].isKept ? kept[k].night : -1);
        }
        for (int r = 0; r < ROWS; r++) {
            sum = rows[r].addTo(sum);
        }
        for (int t = 0; t < TEXTS; t++) {
            sum = texts[t].addTo(sum);
        }
        return sum;
    }

    // ---- what the calls share

    private static boolean within(int v, int bound) {
        return v >= 0 && v < bound;
    }

    private static boolean canMove(int n) {
        return n >= 1 && n <= MOVED_MOST;
    }

    private static boolean isSack(int p, int n) {
        return within(p, PROVINCES) && within(n, SACK_MOST + 1);
    }

    private boolean areTwo(int a, int b) {
        return within(a, land.size) && within(b, land.size) && a != b;
    }

    private int find(int f) {
        foundLast = f;
        foundTimes[f]++;
        return FINDING;
    }

    private int tell(int v) {
        askedLast = v;
        return 1;
    }

    private void tellFraction(int above, int below) {
        int shared = greatestShared(above, below);
        upperLast = above / shared;
        lowerLast = below / shared;
    }

    /** Of a number of 0 or more and one above 0: so it is never 0. */
    private static int greatestShared(int above, int below) {
        int a = below;
        int b = above;
        // each two steps halve it: 100 are more than any int needs
        for (int step = 0; step < 100 && b != 0; step++) {
            int rest = a % b;
            a = b;
            b = rest;
        }
        return a == 0 ? 1 : a;
    }

    private int layOut(Sheet sheet, int n, int filler) {
        if (n > sheet.values.length) {
            return BAD;
        }
        if (n < 0) {
            return find(SIZE);
        }
        sheet.begin(n, filler);
        return n;
    }

    private static int thoseThere(Sheet[] sheets) {
        int there = 0;
        for (int i = 0; i < sheets.length; i++) {
            if (sheets[i].isThere()) {
                there++;
            }
        }
        return there;
    }

    private static int kindOfLetter(int letter) {
        for (int kind = 0; kind < KINDS; kind++) {
            if (LETTERS[kind] == letter) {
                return kind;
            }
        }
        return NONE;
    }

    private static int faultOf(Sheet text) {
        int houses = 0;
        int i = 0;
        while (i < text.size) {
            if (text.values[i] == BLANK) {
                i++;
                continue;
            }
            if (houses == HOUSES_MOST) {
                return i;
            }
            int fault = itemFault(text, i);
            if (fault != NONE) {
                return fault;
            }
            houses++;
            i += ITEM;
        }
        return NONE;
    }

    private static int itemFault(Sheet text, int from) {
        for (int k = 0; k < ITEM; k++) {
            if (from + k >= text.size) {
                return text.size;
            }
            if (!fitsItem(text.values[from + k], k)) {
                return from + k;
            }
        }
        return NONE;
    }

    private static boolean fitsItem(int sign, int k) {
        if (k == 0) {
            return kindOfLetter(sign) != NONE;
        }
        return within(sign - FIGURE_0, k == 1 ? PROVINCES : 10);
    }

    /** Only for a text without a fault. */
    private void settleBy(Sheet text) {
        int i = 0;
        while (i + ITEM <= text.size) {
            if (text.values[i] == BLANK) {
                i++;
                continue;
            }
            land.settle(kindOfLetter(text.values[i]), text.values[i + 1] - FIGURE_0,
                    text.values[i + 2] - FIGURE_0, text.values[i + 3] - FIGURE_0);
            i += ITEM;
        }
    }

    private boolean lends(int a, int b, int n) {
        if (!land.canHandOver(a, b, n)) {
            return false;
        }
        land.handOver(a, b, n);
        land.owe(a, b, n);
        deeds.add(LEND, a, b, n);
        return true;
    }

    private boolean melts(int h, int n) {
        if (land.spoons[h] < n) {
            return false;
        }
        land.spoons[h] -= n;
        deeds.add(MELT, h, 0, n);
        return true;
    }

    private boolean bears(int h) {
        if (land.mouths[h] >= MOUTHS_MOST || land.spoons[h] >= SPOONS_MOST) {
            return false;
        }
        land.mouths[h]++;
        land.spoons[h]++;
        deeds.add(BORN, h, 0, 0);
        return true;
    }

    private boolean loses(int h) {
        if (land.mouths[h] == 0) {
            return false;
        }
        land.mouths[h]--;
        deeds.add(GONE, h, 0, 0);
        return true;
    }

    private boolean happens(int what, int h) {
        switch (what) {
            case 0:
                return bears(h);
            case 1:
                return loses(h);
            case 2:
                return melts(h, 1);
            default:
                return lends(h, h + 1 < land.size ? h + 1 : 0, 1);
        }
    }

    private int allHouses() {
        return (1 << land.size) - 1;
    }

    /** Mouths that each house has more than are counted of it: tax and fine are both by these. */
    private void measureHidden() {
        for (int h = 0; h < land.size; h++) {
            hidden[h] = Math.max(-land.lie(h), 0);
        }
    }

    private int hiddenBy(int set) {
        int sum = 0;
        for (int h = 0; h < land.size; h++) {
            if ((set >> h & 1) == 1) {
                sum += hidden[h];
            }
        }
        return sum;
    }

    private int mostHiddenBy(int houses) {
        int taken = 0;
        for (int k = 0; k < houses && k < land.size; k++) {
            taken |= 1 << mostHidingBeside(taken);
        }
        return hiddenBy(taken);
    }

    /** Only while there is a house that is not taken. */
    private int mostHidingBeside(int taken) {
        int most = -1;
        int which = 0;
        for (int h = 0; h < land.size; h++) {
            if ((taken >> h & 1) == 0 && hidden[h] > most) {
                most = hidden[h];
                which = h;
            }
        }
        return which;
    }

    /** 1, or how it is refused. */
    private int beginLeading(int r, int bites) {
        if (!within(r, ROWS) || !within(bites, ROWS)) {
            return BAD;
        }
        Sheet spoons = rows[r];
        Sheet mouths = rows[bites];
        if (!spoons.isThere() || !mouths.isThere()) {
            return find(NOTHING);
        }
        if (spoons.size > LED_MOST || spoons.size != mouths.size) {
            return find(SIZE);
        }
        if (!spoons.isAllWithin(WEAR_MOST + 1) || !mouths.isAllWithin(WEAR_MOST + 1)) {
            return find(UNLIKE);
        }
        leading.begin(spoons, mouths);
        return 1;
    }

    /** A row or a text: as many places as it has of those that it may have, or missing. */
    private static final class Sheet {
        static final int MISSING = -1;
        final int[] values;
        int size = MISSING;

        Sheet(int most) {
            values = new int[most];
        }

        boolean isThere() {
            return size != MISSING;
        }

        void begin(int n, int filler) {
            size = n;
            Arrays.fill(values, filler);
        }

        boolean hasPlaces(int from, int n) {
            return from >= 0 && from <= size && n <= size - from;
        }

        boolean isAllWithin(int bound) {
            for (int i = 0; i < size; i++) {
                if (!within(values[i], bound)) {
                    return false;
                }
            }
            return true;
        }

        long addTo(long before) {
            long sum = 31 * before + size;
            for (int i = 0; i < size; i++) {
                sum = 31 * sum + values[i];
            }
            return sum;
        }
    }

    /** What a house of kind 0 hands in; the other kinds say what they do otherwise. */
    private static class House {
        int handsOwn(int mouths, int spoons, int night) {
            return Math.min(spoons, mouths);
        }

        int wooden() {
            return 0;
        }

        int countedBy(int law, int mouths, int spoons, int night) {
            int own = handsOwn(mouths, spoons, night);
            return law == 0 ? own + wooden() : own;
        }
    }

    private static final class Miser extends House {
        int handsOwn(int mouths, int spoons, int night) {
            return Math.max(Math.min(spoons, mouths) - 1, 0);
        }

        int holdsBack(int mouths, int spoons, int night) {
            return Math.min(spoons, mouths) - handsOwn(mouths, spoons, night);
        }
    }

    private static class Borrower extends House {
        int handsOwn(int mouths, int spoons, int night) {
            return spoons;
        }
    }

    private static class Nomad extends House {
        boolean isThere(int night) {
            return night % 2 == 0;
        }

        int handsOwn(int mouths, int spoons, int night) {
            return isThere(night) ? Math.min(spoons, mouths) : 0;
        }
    }

    private static final class Ghost extends Borrower {
        int wooden() {
            return 1;
        }
    }

    private static final class Sticks extends Nomad {
        // even nights that 3 divides, too
        private static final int ROUND = 6;

        boolean isThere(int night) {
            return night % ROUND == 0;
        }

        int countedBy(int law, int mouths, int spoons, int night) {
            return law == 2 ? mouths : handsOwn(mouths, spoons, night);
        }

        int nightsUntilThere(int night) {
            return (ROUND - night % ROUND) % ROUND;
        }
    }

    /** All that can be kept: houses, debts, the law, the log, tax and fine. */
    private static final class Land {
        final House[] rules;
        final int[] kind = new int[HOUSES_MOST];
        final int[] province = new int[HOUSES_MOST];
        final int[] mouths = new int[HOUSES_MOST];
        final int[] spoons = new int[HOUSES_MOST];
        final int[] debts = new int[HOUSES_MOST * HOUSES_MOST];
        final int[] log = new int[NIGHTS_MOST * PROVINCES];
        int size = 0;
        int law = 0;
        int night = 0;
        int tax = 1;
        int fine = 0;
        boolean isKept = false;

        Land(House[] rulesOfKinds) {
            rules = rulesOfKinds;
        }

        void empty() {
            Arrays.fill(debts, 0);
            size = 0;
            law = 0;
            night = 0;
            tax = 1;
            fine = 0;
        }

        void takeFrom(Land other) {
            System.arraycopy(other.kind, 0, kind, 0, HOUSES_MOST);
            System.arraycopy(other.province, 0, province, 0, HOUSES_MOST);
            System.arraycopy(other.mouths, 0, mouths, 0, HOUSES_MOST);
            System.arraycopy(other.spoons, 0, spoons, 0, HOUSES_MOST);
            System.arraycopy(other.debts, 0, debts, 0, HOUSES_MOST * HOUSES_MOST);
            System.arraycopy(other.log, 0, log, 0, NIGHTS_MOST * PROVINCES);
            size = other.size;
            law = other.law;
            night = other.night;
            tax = other.tax;
            fine = other.fine;
        }

        void settle(int itsKind, int itsProvince, int itsMouths, int itsSpoons) {
            if (size < HOUSES_MOST && within(itsKind, KINDS)) {
                kind[size] = itsKind;
                province[size] = itsProvince;
                mouths[size] = itsMouths;
                spoons[size] = itsSpoons;
                size++;
            }
        }

        House rule(int h) {
            return rules[kind[h]];
        }

        int figure(int h, int what) {
            switch (what) {
                case 0:
                    return kind[h];
                case 1:
                    return province[h];
                case 2:
                    return mouths[h];
                case 3:
                    return spoons[h];
                case 4:
                    return owedBy(h);
                default:
                    return owedTo(h);
            }
        }

        int debt(int a, int b) {
            return debts[a * HOUSES_MOST + b];
        }

        void owe(int a, int b, int n) {
            debts[a * HOUSES_MOST + b] += n;
        }

        int owedBy(int h) {
            int sum = 0;
            for (int a = 0; a < size; a++) {
                sum += debt(a, h);
            }
            return sum;
        }

        int owedTo(int h) {
            int sum = 0;
            for (int b = 0; b < size; b++) {
                sum += debt(h, b);
            }
            return sum;
        }

        boolean canHandOver(int from, int to, int n) {
            return spoons[from] >= n && spoons[to] + n <= SPOONS_MOST;
        }

        void handOver(int from, int to, int n) {
            spoons[from] -= n;
            spoons[to] += n;
        }

        int handedIn(int h) {
            return rule(h).handsOwn(mouths[h], spoons[h], night) + rule(h).wooden();
        }

        int counted(int h, int byLaw) {
            return rule(h).countedBy(byLaw, mouths[h], spoons[h], night);
        }

        int lie(int h) {
            return counted(h, law) - mouths[h];
        }

        int countedIn(int p, int byLaw) {
            int sum = 0;
            for (int h = 0; h < size; h++) {
                if (province[h] == p) {
                    sum += counted(h, byLaw);
                }
            }
            return sum;
        }

        int countedOfAll(int byLaw) {
            int sum = 0;
            for (int p = 0; p < PROVINCES; p++) {
                sum += countedIn(p, byLaw);
            }
            return sum;
        }

        int mouthsIn(int p) {
            int sum = 0;
            for (int h = 0; h < size; h++) {
                if (province[h] == p) {
                    sum += mouths[h];
                }
            }
            return sum;
        }

        int mouthsOfAll() {
            int sum = 0;
            for (int h = 0; h < size; h++) {
                sum += mouths[h];
            }
            return sum;
        }

        int spoonsOfAll() {
            int sum = 0;
            for (int h = 0; h < size; h++) {
                sum += spoons[h];
            }
            return sum;
        }

        int borrowers() {
            int many = 0;
            for (int h = 0; h < size; h++) {
                if (rule(h) instanceof Borrower) {
                    many++;
                }
            }
            return many;
        }

        int nomads() {
            int many = 0;
            for (int h = 0; h < size; h++) {
                if (rule(h) instanceof Nomad) {
                    many++;
                }
            }
            return many;
        }

        /** Only while there are fewer nights than the log can hold. */
        void logNight() {
            for (int p = 0; p < PROVINCES; p++) {
                log[night * PROVINCES + p] = countedIn(p, law);
            }
            night++;
        }

        int logged(int ofNight, int p) {
            return log[ofNight * PROVINCES + p];
        }

        long addTo(long before) {
            long sum = 31 * (31 * (31 * before + law) + tax) + fine;
            for (int h = 0; h < size; h++) {
                for (int what = 0; what <= 5; what++) {
                    sum = 31 * sum + figure(h, what);
                }
            }
            for (int a = 0; a < size; a++) {
                for (int b = 0; b < size; b++) {
                    sum = 31 * sum + debt(a, b);
                }
            }
            for (int i = 0; i < night * PROVINCES; i++) {
                sum = 31 * sum + log[i];
            }
            return sum;
        }
    }

    /** The deeds kept in mind, in a ring: a further one takes the place of the first of all. */
    private static final class Deeds {
        private static final int MOST = 60;
        final int[] sort = new int[MOST];
        final int[] first = new int[MOST];
        final int[] second = new int[MOST];
        final int[] many = new int[MOST];
        int end = 0;
        int size = 0;

        void forgetAll() {
            end = 0;
            size = 0;
        }

        void add(int itsSort, int a, int b, int n) {
            sort[end] = itsSort;
            first[end] = a;
            second[end] = b;
            many[end] = n;
            end = (end + 1) % MOST;
            size = Math.min(size + 1, MOST);
        }

        /** The place of the last one, which stays readable until the next deed; -1: there is none. */
        int takeLast() {
            if (size == 0) {
                return -1;
            }
            end = (end + MOST - 1) % MOST;
            size--;
            return end;
        }
    }

    /** All rows of mouths that the houses of a province can have, by what would be counted. */
    private static final class Ways {
        private static final int HOUSES = 5, FIGURES = 10, TOP = 50;
        // below each way's sum of mouths, also where that is taken with a minus
        private static final int UNREACHED = -HOUSES * FIGURES;
        private final int[] houses = new int[HOUSES];
        private final int[][] countedOf = new int[HOUSES][FIGURES];
        // ahead[i][n]: ways of the houses before place i to be counted as n; behind: of those from i on
        private final int[][] ahead = new int[HOUSES + 1][TOP + 1];
        private final int[][] behind = new int[HOUSES + 1][TOP + 1];
        private final int[][] extremes = new int[HOUSES + 1][TOP + 1];
        private int size = 0;

        /** Whether there are few enough houses. */
        boolean gather(Land land, int p) {
            size = 0;
            for (int h = 0; h < land.size; h++) {
                if (land.province[h] == p) {
                    if (size == HOUSES) {
                        return false;
                    }
                    houses[size] = h;
                    for (int m = 0; m < FIGURES; m++) {
                        countedOf[size][m] = land.rule(h).countedBy(land.law, m, m, land.night);
                    }
                    size++;
                }
            }
            addAhead();
            addBehind();
            return true;
        }

        private void addAhead() {
            Arrays.fill(ahead[0], 0);
            ahead[0][0] = 1;
            for (int i = 0; i < size; i++) {
                Arrays.fill(ahead[i + 1], 0);
                addHouse(i, ahead[i], ahead[i + 1]);
            }
        }

        private void addBehind() {
            Arrays.fill(behind[size], 0);
            behind[size][0] = 1;
            for (int i = size - 1; i >= 0; i--) {
                Arrays.fill(behind[i], 0);
                addHouse(i, behind[i + 1], behind[i]);
            }
        }

        private void addHouse(int i, int[] from, int[] to) {
            for (int n = 0; n <= TOP; n++) {
                if (from[n] > 0) {
                    for (int m = 0; m < FIGURES; m++) {
                        int with = n + countedOf[i][m];
                        if (with <= TOP) {
                            to[with] += from[n];
                        }
                    }
                }
            }
        }

        int placeOf(int h) {
            for (int i = 0; i < size; i++) {
                if (houses[i] == h) {
                    return i;
                }
            }
            return 0;
        }

        int number(int n) {
            return n <= TOP ? ahead[size][n] : 0;
        }

        int numberWith(int i, int m, int n) {
            int rest = n - countedOf[i][m];
            if (rest > TOP) {
                return 0;
            }
            int sum = 0;
            for (int before = 0; before <= rest; before++) {
                sum += ahead[i][before] * behind[i + 1][rest - before];
            }
            return sum;
        }

        int sureHouses(int n) {
            int set = 0;
            for (int i = 0; i < size; i++) {
                for (int m = 0; m < FIGURES; m++) {
                    if (numberWith(i, m, n) == number(n)) {
                        set |= 1 << houses[i];
                    }
                }
            }
            return set;
        }

        int mostMouths(int n) {
            return greatest(n, 1);
        }

        int fewestMouths(int n) {
            return -greatest(n, -1);
        }

        /** The greatest sum of mouths, each taken so many times; only if there is a way. */
        private int greatest(int n, int times) {
            Arrays.fill(extremes[0], 0);
            for (int i = 0; i < size; i++) {
                Arrays.fill(extremes[i + 1], UNREACHED);
                raise(i, times);
            }
            return n <= TOP ? extremes[size][n] : 0;
        }

        private void raise(int i, int times) {
            for (int n = 0; n <= TOP; n++) {
                if (ahead[i][n] > 0) {
                    for (int m = 0; m < FIGURES; m++) {
                        int with = n + countedOf[i][m];
                        if (with <= TOP) {
                            extremes[i + 1][with] = Math.max(extremes[i + 1][with], extremes[i][n] + times * m);
                        }
                    }
                }
            }
        }
    }

    /** Spoons led to mouths, spoon by spoon; a set of mouths taken has as many bits as spoons were led. */
    private static final class Leading {
        private static final int SETS = 1 << LED_MOST;
        private final int[] wear = new int[LED_MOST];
        private final int[] bites = new int[LED_MOST];
        // ahead: ways to come to a set of mouths taken; behind: ways to go on from it to the end
        private final int[] ahead = new int[SETS];
        private final int[] behind = new int[SETS];
        private final int[] sums = new int[LED_MOST];
        int size = 0;

        /** Only with rows of one size, of 8 at most. */
        void begin(Sheet spoons, Sheet mouths) {
            size = spoons.size;
            System.arraycopy(spoons.values, 0, wear, 0, size);
            System.arraycopy(mouths.values, 0, bites, 0, size);
            addAhead();
            addBehind();
        }

        private int allMouths() {
            return (1 << size) - 1;
        }

        private boolean canLead(int spoon, int mouth, int taken) {
            return (taken >> mouth & 1) == 0 && Math.abs(wear[spoon] - bites[mouth]) <= 1;
        }

        private void addAhead() {
            Arrays.fill(ahead, 0);
            ahead[0] = 1;
            for (int taken = 0; taken < allMouths(); taken++) {
                int spoon = Integer.bitCount(taken);
                for (int mouth = 0; mouth < size; mouth++) {
                    if (canLead(spoon, mouth, taken)) {
                        ahead[taken | 1 << mouth] += ahead[taken];
                    }
                }
            }
        }

        private void addBehind() {
            Arrays.fill(behind, 0);
            behind[allMouths()] = 1;
            for (int taken = allMouths() - 1; taken >= 0; taken--) {
                int spoon = Integer.bitCount(taken);
                for (int mouth = 0; mouth < size; mouth++) {
                    if (canLead(spoon, mouth, taken)) {
                        behind[taken] += behind[taken | 1 << mouth];
                    }
                }
            }
        }

        int number() {
            return behind[0];
        }

        int sureSpoons() {
            int set = 0;
            for (int spoon = 0; spoon < size; spoon++) {
                if (isSure(spoon)) {
                    set |= 1 << spoon;
                }
            }
            return set;
        }

        private boolean isSure(int spoon) {
            Arrays.fill(sums, 0);
            for (int taken = 0; taken < allMouths(); taken++) {
                if (Integer.bitCount(taken) == spoon) {
                    for (int mouth = 0; mouth < size; mouth++) {
                        if (canLead(spoon, mouth, taken)) {
                            sums[mouth] += ahead[taken] * behind[taken | 1 << mouth];
                        }
                    }
                }
            }
            for (int mouth = 0; mouth < size; mouth++) {
                if (sums[mouth] == number()) {
                    return true;
                }
            }
            return false;
        }

        /** Only if there is a way, into a row with room for all spoons. */
        void writeFirst(int[] to) {
            int taken = 0;
            for (int spoon = 0; spoon < size; spoon++) {
                for (int mouth = 0; mouth < size; mouth++) {
                    if (canLead(spoon, mouth, taken) && behind[taken | 1 << mouth] > 0) {
                        to[spoon] = mouth;
                        taken |= 1 << mouth;
                        break;
                    }
                }
            }
        }

        int mostSpoons() {
            Arrays.fill(ahead, 0);
            ahead[0] = 1;
            for (int spoon = 0; spoon < size; spoon++) {
                reachWith(spoon);
            }
            int most = 0;
            for (int taken = 0; taken <= allMouths(); taken++) {
                if (ahead[taken] > 0) {
                    most = Math.max(most, Integer.bitCount(taken));
                }
            }
            return most;
        }

        /** From the greatest set down, so that no set reached by this spoon is gone on from by it again. */
        private void reachWith(int spoon) {
            for (int taken = allMouths(); taken >= 0; taken--) {
                if (ahead[taken] > 0) {
                    for (int mouth = 0; mouth < size; mouth++) {
                        if (canLead(spoon, mouth, taken)) {
                            ahead[taken | 1 << mouth] = 1;
                        }
                    }
                }
            }
        }
    }
}
