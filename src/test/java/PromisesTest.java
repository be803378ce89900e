/** Promise by promise: ordinary inputs, the edges that the document names, wrong inputs. */
public final class PromisesTest {
    private static final int BAD = -1, FULL = -2, FINDING = -3, STATE = -4, SPENT = -6, NONE = -9;
    private static final int NOTHING = 1, BEYOND = 2, UNLIKE = 3, NOUGHT = 4, SIZE = 5;
    private static final int LEAST = Integer.MIN_VALUE, GREATEST = Integer.MAX_VALUE;
    private static int wrong = 0, checks = 0, promise = 0;

    public static void main(String[] args) {
        rowsAndTexts();
        landsAndLaws();
        deeds();
        counts();
        sacks();
        taxes();
        leadsAndLots();
        whatIsTold();
        System.out.println(checks + " checks, " + wrong + " wrong");
        if (wrong != 0) {
            System.exit(1);
        }
    }

    private static void rowsAndTexts() {
        newObject();
        row();
        lay();
        at();
        tear();
        copy();
        mean();
        text();
        put();
        fault();
    }

    private static void landsAndLaws() {
        land();
        house();
        mark();
        law();
    }

    private static void deeds() {
        lend();
        back();
        melt();
        born();
        gone();
        night();
        undo();
        keep();
        on();
    }

    private static void counts() {
        hands();
        sack();
        was();
        off();
        liar();
        best();
    }

    private static void sacks() {
        span();
        ways();
        odds();
        sure();
        lost();
    }

    private static void taxes() {
        tax();
        gains();
        look();
        fine();
    }

    private static void leadsAndLots() {
        leads();
        led();
        lead();
        most();
        next();
        years();
    }

    private static void whatIsTold() {
        asked();
        upper();
        lower();
        count();
        finding();
        findings();
        digest();
    }

    // ---- how it is checked

    private static void due(String what, long got, long want) {
        checks++;
        if (got != want) {
            wrong++;
            System.out.println("promise " + promise + ": " + what + " is " + got + ", due is " + want);
        }
    }

    /** Refused with a finding. */
    private static void dueFinding(SpoonCensus x, String what, int got, int finding) {
        due(what, got, FINDING);
        due(what + ", the finding", x.finding(), finding);
    }

    private static void dueAsked(SpoonCensus x, String what, int got, int answer, int asked) {
        due(what, got, answer);
        due(what + ", asked", x.asked(), asked);
    }

    private static void dueFraction(SpoonCensus x, String what, int got, long upper, long lower) {
        due(what, got, 1);
        due(what + ", upper", x.upper(), upper);
        due(what + ", lower", x.lower(), lower);
    }

    private static void write(SpoonCensus x, int t, String signs) {
        x.text(t, signs.length());
        for (int i = 0; i < signs.length(); i++) {
            x.put(t, i, signs.charAt(i));
        }
    }

    private static SpoonCensus landOf(String signs) {
        SpoonCensus x = new SpoonCensus();
        write(x, 0, signs);
        x.land(0);
        return x;
    }

    private static SpoonCensus rowsOf(int[] spoons, int[] mouths) {
        SpoonCensus x = new SpoonCensus();
        fill(x, 0, spoons);
        fill(x, 1, mouths);
        return x;
    }

    private static void fill(SpoonCensus x, int r, int... values) {
        x.row(r, values.length);
        for (int i = 0; i < values.length; i++) {
            x.lay(r, i, values[i]);
        }
    }

    private static int place(SpoonCensus x, int r, int i) {
        return x.at(r, i) == 1 ? x.asked() : LEAST;
    }

    private static int figure(SpoonCensus x, int h, int what) {
        return x.house(h, what) == 1 ? x.asked() : LEAST;
    }

    private static void nights(SpoonCensus x, int n) {
        for (int i = 0; i < n; i++) {
            x.night();
        }
    }

    // ---- 1 rows, texts, lands

    private static void newObject() {
        promise = 1;
        SpoonCensus x = new SpoonCensus();
        for (int what = 0; what <= 8; what++) {
            due("count(" + what + ")", x.count(what), 0);
        }
        due("asked()", x.asked(), 0);
        due("upper()", x.upper(), 0);
        due("lower()", x.lower(), 1);
        due("finding()", x.finding(), 0);
        due("law(0)", x.law(0), 0);
        for (int r = 0; r < 6; r++) {
            dueFinding(x, "at(" + r + ", 0)", x.at(r, 0), NOTHING);
        }
        for (int t = 0; t < 4; t++) {
            dueFinding(x, "fault(" + t + ")", x.fault(t), NOTHING);
        }
        for (int k = 0; k < 3; k++) {
            dueFinding(x, "on(" + k + ")", x.on(k), NOTHING);
        }
        due("undo()", x.undo(), STATE);
        // TAX 1 and FINE 0 stand in the digest only, while there is no house
        long h = 17;
        int[] all = {0, 0, 0, 0, 0, 0, 0, 0, 0, 0, 1, 0, -1, -1, -1, -1, -1, -1, -1, -1, -1, -1, -1, -1, -1};
        for (int v : all) {
            h = 31 * h + v;
        }
        due("digest()", x.digest(), h);
    }

    private static void row() {
        promise = 2;
        SpoonCensus x = new SpoonCensus();
        due("row(0, 0)", x.row(0, 0), 0);
        due("row(5, 60)", x.row(5, 60), 60);
        due("count(6)", x.count(6), 2);
        x.lay(5, 59, 7);
        due("row(5, 60) again", x.row(5, 60), 60);
        due("its last place", place(x, 5, 59), 0);
        due("row(-1, 3)", x.row(-1, 3), BAD);
        due("row(6, 3)", x.row(6, 3), BAD);
        due("row(0, 61)", x.row(0, 61), BAD);
        due("row(6, -1)", x.row(6, -1), BAD);
        due("row(0, GREATEST)", x.row(0, GREATEST), BAD);
        due("no finding", x.finding(), 0);
        dueFinding(x, "row(5, -1)", x.row(5, -1), SIZE);
        dueFinding(x, "row(1, LEAST)", x.row(1, LEAST), SIZE);
        due("a refused row is not there", x.count(6), 2);
        due("a refused row stays", x.at(5, 59), 1);
    }

    private static void lay() {
        promise = 3;
        SpoonCensus x = new SpoonCensus();
        dueFinding(x, "lay(0, 0, 1)", x.lay(0, 0, 1), NOTHING);
        x.row(0, 2);
        dueAsked(x, "lay(0, 1, LEAST)", x.lay(0, 1, LEAST), 1, 0);
        dueAsked(x, "lay(0, 1, 5)", x.lay(0, 1, 5), 1, LEAST);
        due("place 1", place(x, 0, 1), 5);
        due("place 0", place(x, 0, 0), 0);
        due("lay(6, 0, 1)", x.lay(6, 0, 1), BAD);
        due("lay(-1, 0, 1)", x.lay(-1, 0, 1), BAD);
        dueFinding(x, "lay(0, 2, 1)", x.lay(0, 2, 1), BEYOND);
        dueFinding(x, "lay(0, -1, 1)", x.lay(0, -1, 1), BEYOND);
        dueFinding(x, "lay(0, LEAST, 1)", x.lay(0, LEAST, 1), BEYOND);
    }

    private static void at() {
        promise = 4;
        SpoonCensus x = new SpoonCensus();
        fill(x, 3, 8, -9, GREATEST);
        dueAsked(x, "at(3, 0)", x.at(3, 0), 1, 8);
        dueAsked(x, "at(3, 1)", x.at(3, 1), 1, -9);
        dueAsked(x, "at(3, 2)", x.at(3, 2), 1, GREATEST);
        dueFinding(x, "at(3, 3)", x.at(3, 3), BEYOND);
        dueFinding(x, "at(3, -1)", x.at(3, -1), BEYOND);
        dueFinding(x, "at(2, 0)", x.at(2, 0), NOTHING);
        due("at(6, 0)", x.at(6, 0), BAD);
        due("at(LEAST, 0)", x.at(LEAST, 0), BAD);
        due("asked() stays", x.asked(), GREATEST);
    }

    private static void tear() {
        promise = 5;
        SpoonCensus x = new SpoonCensus();
        fill(x, 1, 4);
        due("tear(1)", x.tear(1), 1);
        due("count(6)", x.count(6), 0);
        dueFinding(x, "tear(1) again", x.tear(1), NOTHING);
        dueFinding(x, "at(1, 0)", x.at(1, 0), NOTHING);
        due("tear(6)", x.tear(6), BAD);
        due("tear(-1)", x.tear(-1), BAD);
        x.row(1, 1);
        due("a new row", place(x, 1, 0), 0);
    }

    private static void copy() {
        promise = 6;
        SpoonCensus x = new SpoonCensus();
        fill(x, 0, 1, 2, 3, 4, 5);
        fill(x, 1, 9, 9, 9);
        due("copy(0, 3, 1, 1, 2)", x.copy(0, 3, 1, 1, 2), 1);
        due("place 0", place(x, 1, 0), 9);
        due("place 1", place(x, 1, 1), 4);
        due("place 2", place(x, 1, 2), 5);
        due("copy(0, 0, 0, 1, 4)", x.copy(0, 0, 0, 1, 4), 1);
        for (int i = 1; i < 5; i++) {
            due("as if taken ahead, place " + i, place(x, 0, i), i);
        }
        due("copy(0, 1, 0, 0, 4)", x.copy(0, 1, 0, 0, 4), 1);
        due("down, place 0", place(x, 0, 0), 1);
        due("down, place 3", place(x, 0, 3), 4);
        due("none at the end", x.copy(0, 5, 1, 3, 0), 1);
        dueFinding(x, "none behind the end", x.copy(0, 6, 1, 0, 0), BEYOND);
        dueFinding(x, "none behind the other end", x.copy(0, 0, 1, 4, 0), BEYOND);
        dueFinding(x, "none from below 0", x.copy(0, -1, 1, 0, 0), BEYOND);
        dueFinding(x, "none to below 0", x.copy(0, 0, 1, -1, 0), BEYOND);
        dueFinding(x, "one too many", x.copy(0, 0, 1, 0, 4), BEYOND);
        dueFinding(x, "from too far", x.copy(0, 3, 1, 0, 3), BEYOND);
        dueFinding(x, "GREATEST from GREATEST", x.copy(0, GREATEST, 1, GREATEST, GREATEST), BEYOND);
        dueFinding(x, "GREATEST from 1", x.copy(0, 1, 1, 1, GREATEST), BEYOND);
        dueFinding(x, "no such row", x.copy(2, -1, 0, 0, 0), NOTHING);
        dueFinding(x, "no such other row", x.copy(0, -1, 2, 0, 0), NOTHING);
        dueFinding(x, "SIZE ahead of NOTHING", x.copy(2, -1, 2, 0, -1), SIZE);
        due("BAD ahead of SIZE", x.copy(6, 0, 0, 0, -1), BAD);
        due("BAD by the other", x.copy(0, 0, -1, 0, -1), BAD);
    }

    private static void mean() {
        promise = 7;
        SpoonCensus x = new SpoonCensus();
        fill(x, 0, 1, 2, 4);
        dueAsked(x, "mean of 1 2 4", x.mean(0), 1, 2);
        fill(x, 0, -1, -2, -4);
        dueAsked(x, "mean of -1 -2 -4", x.mean(0), 1, -2);
        fill(x, 0, GREATEST, GREATEST, GREATEST);
        dueAsked(x, "mean of GREATEST", x.mean(0), 1, GREATEST);
        fill(x, 0, LEAST, LEAST);
        dueAsked(x, "mean of LEAST", x.mean(0), 1, LEAST);
        fill(x, 2, -7);
        dueAsked(x, "mean of one", x.mean(2), 1, -7);
        dueAsked(x, "mean of LEAST again", x.mean(0), 1, LEAST);
        x.row(0, 0);
        dueFinding(x, "mean of none", x.mean(0), NOUGHT);
        dueFinding(x, "mean of a missing row", x.mean(1), NOTHING);
        due("mean(6)", x.mean(6), BAD);
        due("mean(-1)", x.mean(-1), BAD);
        due("asked() stays", x.asked(), LEAST);
    }

    private static void text() {
        promise = 8;
        SpoonCensus x = new SpoonCensus();
        due("text(3, 80)", x.text(3, 80), 80);
        due("text(0, 0)", x.text(0, 0), 0);
        due("count(7)", x.count(7), 2);
        x.put(3, 79, 104);
        due("text(3, 80) again", x.text(3, 80), 80);
        due("a blank", x.put(3, 79, 1), 1032);
        due("text(4, 1)", x.text(4, 1), BAD);
        due("text(-1, 1)", x.text(-1, 1), BAD);
        due("text(1, 81)", x.text(1, 81), BAD);
        due("text(4, -1)", x.text(4, -1), BAD);
        dueFinding(x, "text(1, -1)", x.text(1, -1), SIZE);
        due("count(7) stays", x.count(7), 2);
    }

    private static void put() {
        promise = 9;
        SpoonCensus x = new SpoonCensus();
        dueFinding(x, "put(0, 0, 1)", x.put(0, 0, 1), NOTHING);
        x.text(0, 2);
        due("put 200", x.put(0, 0, 200), 1032);
        due("put -129", x.put(0, 0, -129), 944);
        due("put 256", x.put(0, 0, 256), 1127);
        due("put -128", x.put(0, 0, -128), 1000);
        due("put 0", x.put(0, 0, 0), 872);
        due("put beside it", x.put(0, 1, 0), 1032);
        dueFinding(x, "put(0, 2, 1)", x.put(0, 2, 1), BEYOND);
        dueFinding(x, "put(0, -1, 1)", x.put(0, -1, 1), BEYOND);
        due("put(4, 0, 1)", x.put(4, 0, 1), BAD);
        due("put(-1, 0, 1)", x.put(-1, 0, 1), BAD);
    }

    private static int faultOf(String signs) {
        SpoonCensus x = new SpoonCensus();
        write(x, 2, signs);
        return x.fault(2);
    }

    private static void fault() {
        promise = 10;
        String[] fine = {"", " ", "h000", "  h099 m199  b299n000g111 s222 ", "h000h000h000h000h000h000h000h000  "};
        for (String signs : fine) {
            due("fault of '" + signs + "'", faultOf(signs), NONE);
        }
        String[] faulty = {"x000", "h300", "h0x0", "h00x", "h", "h0", "h00", "h000 h", "h 000", "h0 00", "h00 0", "H000",
            "  0", "h/00", "h0/0", "h0:0", "h00:", "h000h000h000h000h000h000h000h000 h000",
            "h000h000h000h000h000h000h000h000x", "h000,"};
        int[] places = {0, 1, 2, 3, 1, 2, 3, 6, 1, 2, 3, 0, 2, 1, 2, 2, 3, 33, 32, 4};
        for (int i = 0; i < faulty.length; i++) {
            due("fault of '" + faulty[i] + "'", faultOf(faulty[i]), places[i]);
        }
        for (int left = 0; left <= 4; left++) {
            String signs = " ".repeat(80 - left) + "h000".substring(0, left);
            due("an item of " + left + " at the end of 80", faultOf(signs), left % 4 == 0 ? NONE : 80);
        }
        SpoonCensus x = new SpoonCensus();
        x.text(0, 3);
        x.put(0, 2, -152);
        due("a byte of -152 is an h", x.fault(0), 3);
        x.put(0, 2, -104);
        due("a byte below 0", x.fault(0), 2);
        dueFinding(x, "fault(1)", x.fault(1), NOTHING);
        due("fault(4)", x.fault(4), BAD);
        due("fault(-1)", x.fault(-1), BAD);
    }

    private static void land() {
        promise = 11;
        SpoonCensus x = new SpoonCensus();
        write(x, 1, " h012 s298 ");
        due("land(1)", x.land(1), 2);
        due("kind", figure(x, 1, 0), 5);
        due("province", figure(x, 1, 1), 2);
        due("mouths", figure(x, 1, 2), 9);
        due("spoons", figure(x, 1, 3), 8);
        x.law(2);
        x.tax(7, 8);
        x.lend(0, 1, 2);
        x.night();
        for (int k = 0; k < 3; k++) {
            x.keep(k);
        }
        write(x, 2, "m155b");
        due("a fault", x.land(2), STATE);
        due("it stays", x.count(0), 2);
        due("its night stays", x.count(3), 1);
        due("its deeds stay", x.count(8), 2);
        write(x, 2, "m155b144n033");
        due("land(2)", x.land(2), 3);
        due("law", x.law(0), 0);
        due("night", x.count(3), 0);
        due("deeds", x.count(8), 0);
        due("debts", figure(x, 0, 5), 0);
        dueAsked(x, "tax", x.gains(0), 1, 1);
        due("fine", x.look(), NONE);
        for (int k = 0; k < 3; k++) {
            dueFinding(x, "kept land " + k, x.on(k), NOTHING);
        }
        write(x, 3, "h011h022h033h044" + " ".repeat(48) + "b155g166n277s298");
        due("a land of 80 signs", x.land(3), 8);
        due("its last house", figure(x, 7, 2), 9);
        write(x, 3, "h011" + " ".repeat(76));
        due("80 signs with blanks at the end", x.land(3), 1);
        write(x, 3, "");
        due("a land without houses", x.land(3), 0);
        dueAsked(x, "nothing is left of the old one", x.off(), 1, 0);
        due("no lies are left", x.upper(), 0);
        due("no mouths are left", x.count(1), 0);
        due("no spoons are left", x.count(2), 0);
        dueFinding(x, "land(0)", x.land(0), NOTHING);
        due("land(4)", x.land(4), BAD);
        due("land(-1)", x.land(-1), BAD);
    }

    private static void house() {
        promise = 12;
        SpoonCensus x = landOf("g123 h045 b200");
        x.lend(1, 0, 2);
        x.lend(1, 2, 1);
        x.lend(0, 2, 3);
        int[][] want = {{4, 1, 2, 2, 2, 3}, {0, 0, 4, 2, 0, 3}, {2, 2, 0, 4, 4, 0}};
        for (int h = 0; h < 3; h++) {
            for (int what = 0; what < 6; what++) {
                dueAsked(x, "house(" + h + ", " + what + ")", x.house(h, what), 1, want[h][what]);
            }
        }
        due("house(3, 0)", x.house(3, 0), BAD);
        due("house(-1, 0)", x.house(-1, 0), BAD);
        due("house(0, 6)", x.house(0, 6), BAD);
        due("house(0, -1)", x.house(0, -1), BAD);
    }

    private static void mark() {
        promise = 13;
        SpoonCensus x = landOf("h055 m034 m005 b073 n044 g052 s066");
        int[][] want = {
            {FINDING, FINDING, FINDING, FINDING, FINDING}, {1, FINDING, FINDING, FINDING, FINDING},
            {0, FINDING, FINDING, FINDING, FINDING}, {FINDING, -4, FINDING, FINDING, FINDING},
            {FINDING, FINDING, 1, FINDING, FINDING}, {FINDING, -3, FINDING, 2, FINDING},
            {FINDING, FINDING, 1, FINDING, 0}};
        for (int h = 0; h < 7; h++) {
            for (int kind = 1; kind <= 5; kind++) {
                due("mark(" + h + ", " + kind + ")", x.mark(h, kind), want[h][kind - 1]);
            }
        }
        due("UNLIKE", x.finding(), UNLIKE);
        due("so often", x.findings(UNLIKE), 27);
        due("mark(0, 0)", x.mark(0, 0), BAD);
        due("mark(0, 6)", x.mark(0, 6), BAD);
        due("mark(1, -1)", x.mark(1, -1), BAD);
        due("mark(7, 1)", x.mark(7, 1), BAD);
        due("mark(-1, 1)", x.mark(-1, 1), BAD);
        int[] nomad = {1, 0, 1, 0, 1, 0, 1};
        int[] sticks = {0, 5, 4, 3, 2, 1, 0};
        for (int night = 0; night <= 6; night++) {
            due("a nomad on night " + night, x.mark(4, 3), nomad[night]);
            due("sticks as nomads on night " + night, x.mark(6, 3), sticks[night] == 0 ? 1 : 0);
            due("sticks on night " + night, x.mark(6, 5), sticks[night]);
            due("a ghost by law 1 on night " + night, x.mark(5, 4), 2);
            x.night();
        }
    }

    private static void law() {
        promise = 14;
        SpoonCensus x = landOf("g055");
        due("law(2)", x.law(2), 0);
        due("law(1)", x.law(1), 2);
        due("law(3)", x.law(3), BAD);
        due("law(-1)", x.law(-1), BAD);
        due("law(0)", x.law(0), 1);
        due("no deed", x.count(8), 0);
    }

    // ---- 2 deeds

    private static void lend() {
        promise = 15;
        SpoonCensus x = landOf("h009 h009 h009 h009");
        due("lend(0, 1, 4)", x.lend(0, 1, 4), 4);
        due("lend(0, 1, 5)", x.lend(0, 1, 5), 9);
        due("spoons of 0", figure(x, 0, 3), 0);
        due("spoons of 1", figure(x, 1, 3), 18);
        due("it has none", x.lend(0, 1, 1), STATE);
        due("lend(2, 1, 9)", x.lend(2, 1, 9), 9);
        due("31 would be too many", x.lend(3, 1, 4), STATE);
        due("30 are not", x.lend(3, 1, 3), 3);
        due("one too many", x.lend(3, 1, 1), STATE);
        due("lend the other way", x.lend(1, 0, 2), 2);
        due("its debt stays", figure(x, 1, 4), 21);
        due("lend(1, 1, 1)", x.lend(1, 1, 1), BAD);
        due("lend(0, 1, 0)", x.lend(0, 1, 0), BAD);
        due("lend(1, 0, 10)", x.lend(1, 0, 10), BAD);
        due("lend(1, 0, -1)", x.lend(1, 0, -1), BAD);
        due("lend(4, 0, 1)", x.lend(4, 0, 1), BAD);
        due("lend(0, 4, 1)", x.lend(0, 4, 1), BAD);
        due("lend(-1, 0, 1)", x.lend(-1, 0, 1), BAD);
        due("deeds", x.count(8), 5);
    }

    private static void back() {
        promise = 16;
        SpoonCensus x = landOf("h009 h002 h009 h009 h009");
        due("no debt", x.back(0, 1, 1), STATE);
        x.lend(0, 1, 6);
        due("back(0, 1, 2)", x.back(0, 1, 2), 4);
        due("spoons of 0", figure(x, 0, 3), 5);
        due("spoons of 1", figure(x, 1, 3), 6);
        due("more than lent", x.back(0, 1, 5), STATE);
        due("the other way", x.back(1, 0, 1), STATE);
        x.melt(1, 3);
        due("it has not so many", x.back(0, 1, 4), STATE);
        due("it has so many", x.back(0, 1, 3), 1);
        x.lend(2, 0, 9);
        x.lend(3, 0, 9);
        x.lend(4, 0, 4);
        due("30 spoons", figure(x, 0, 3), 30);
        x.lend(4, 1, 5);
        due("a would have 31", x.back(0, 1, 1), STATE);
        x.melt(0, 1);
        due("a has 30", x.back(0, 1, 1), 0);
        due("back(0, 0, 1)", x.back(0, 0, 1), BAD);
        due("back(2, 0, 0)", x.back(2, 0, 0), BAD);
        due("back(2, 0, 10)", x.back(2, 0, 10), BAD);
        due("back(5, 0, 1)", x.back(5, 0, 1), BAD);
        due("back(0, 5, 1)", x.back(0, 5, 1), BAD);
        due("back(0, -1, 1)", x.back(0, -1, 1), BAD);
    }

    private static void melt() {
        promise = 17;
        SpoonCensus x = landOf("h009 h000");
        x.lend(0, 1, 4);
        due("melt(1, 3)", x.melt(1, 3), 1);
        due("its debts stay", figure(x, 1, 4), 4);
        due("melt(1, 2)", x.melt(1, 2), STATE);
        due("melt(1, 1)", x.melt(1, 1), 0);
        due("melt(0, 0)", x.melt(0, 0), BAD);
        due("melt(0, 10)", x.melt(0, 10), BAD);
        due("melt(2, 1)", x.melt(2, 1), BAD);
        due("melt(-1, 1)", x.melt(-1, 1), BAD);
    }

    private static void born() {
        promise = 18;
        SpoonCensus x = landOf("h087 h009 h009 h009 h000");
        due("born(0)", x.born(0), 9);
        due("with a spoon", figure(x, 0, 3), 8);
        due("9 mouths", x.born(0), FULL);
        x.lend(1, 4, 9);
        x.lend(2, 4, 9);
        x.lend(3, 4, 9);
        due("27 spoons", x.born(4), 1);
        due("28 spoons", x.born(4), 2);
        due("29 spoons", x.born(4), 3);
        due("30 spoons", x.born(4), FULL);
        due("mouths stay", figure(x, 4, 2), 3);
        due("born(5)", x.born(5), BAD);
        due("born(-1)", x.born(-1), BAD);
    }

    private static void gone() {
        promise = 19;
        SpoonCensus x = landOf("h013");
        due("gone(0)", x.gone(0), 0);
        due("its spoon stays", figure(x, 0, 3), 3);
        due("there is none", x.gone(0), STATE);
        due("gone(1)", x.gone(1), BAD);
        due("gone(-1)", x.gone(-1), BAD);
    }

    private static void night() {
        promise = 20;
        SpoonCensus x = landOf("h045 m155 b237 n044 g122 s288");
        int[] byLaw0 = {4 + 4 + 7 + 4 + 3 + 8, 4 + 4 + 7 + 0 + 3 + 0, 4 + 4 + 7 + 4 + 3 + 0};
        for (int night = 0; night < 3; night++) {
            due("night " + night, x.night(), byLaw0[night]);
        }
        due("spoons stay", x.count(2), 5 + 5 + 7 + 4 + 2 + 8);
        x.law(1);
        due("night 3 by law 1", x.night(), 4 + 4 + 7 + 0 + 2 + 0);
        x.law(2);
        due("night 4 by law 2", x.night(), 4 + 4 + 7 + 4 + 2 + 8);
        nights(x, 24);
        due("29 nights", x.count(3), 29);
        due("night 29", x.night(), 4 + 4 + 7 + 0 + 2 + 8);
        due("30 nights", x.night(), FULL);
        due("undo()", x.undo(), 5);
        due("night 29 again", x.night(), 25);
        due("no houses", new SpoonCensus().night(), STATE);
    }

    private static void undo() {
        promise = 21;
        SpoonCensus x = landOf("h055 b155");
        long[] before = new long[6];
        before[0] = x.digest();
        x.lend(0, 1, 3);
        before[1] = x.digest();
        x.back(0, 1, 2);
        before[2] = x.digest();
        x.melt(1, 1);
        before[3] = x.digest();
        x.born(0);
        before[4] = x.digest();
        x.gone(1);
        before[5] = x.digest();
        x.night();
        due("deeds", x.count(8), 6);
        for (int sort = 5; sort >= 0; sort--) {
            due("undo()", x.undo(), sort);
            due("as before deed " + sort, x.digest(), before[sort]);
        }
        due("none is left", x.undo(), STATE);
        for (int i = 0; i < 61; i++) {
            due("back and forth", i % 2 == 0 ? x.gone(0) : x.born(0), i % 2 == 0 ? 4 : 5);
            x.melt(0, 9);
        }
        x.born(1);
        due("60 are kept in mind", x.count(8), 60);
        due("the last first", x.undo(), 3);
        for (int i = 0; i < 59; i++) {
            due("undo", x.undo() >= 0 ? 1 : 0, 1);
        }
        due("the first ones are forgotten", x.undo(), STATE);
        x.law(1);
        due("law() is no deed", x.undo(), STATE);
    }

    private static void keep() {
        promise = 22;
        SpoonCensus x = landOf("h055 b155");
        due("keep(0)", x.keep(0), 0);
        x.night();
        due("keep(2)", x.keep(2), 1);
        due("deeds stay", x.count(8), 1);
        x.night();
        due("keep(2) again", x.keep(2), 2);
        due("keep(3)", x.keep(3), BAD);
        due("keep(-1)", x.keep(-1), BAD);
        due("on(0)", x.on(0), 0);
        due("on(2)", x.on(2), 2);
        SpoonCensus none = new SpoonCensus();
        due("no houses", none.keep(0), STATE);
        due("BAD ahead of STATE", none.keep(3), BAD);
    }

    private static void on() {
        promise = 23;
        SpoonCensus x = landOf("h055 b155");
        x.lend(0, 1, 2);
        x.law(2);
        x.tax(9, 4);
        x.night();
        x.keep(1);
        long kept = x.digest();
        x.undo();
        x.back(0, 1, 1);
        x.law(0);
        x.tax(3, 3);
        x.born(0);
        nights(x, 4);
        due("on(1)", x.on(1), 1);
        due("no deeds", x.undo(), STATE);
        due("debt", figure(x, 1, 4), 2);
        due("mouths", figure(x, 0, 2), 5);
        due("log", x.was(0, 1), 7);
        dueFinding(x, "the log is no longer", x.was(1, 0), BEYOND);
        due("law", x.law(2), 2);
        dueAsked(x, "tax", x.gains(1), 1, -18);
        SpoonCensus y = landOf("h055 b155");
        y.lend(0, 1, 2);
        y.law(2);
        y.tax(9, 4);
        y.night();
        y.keep(1);
        due("the digest as kept", y.digest(), kept);
        y.melt(0, 1);
        y.on(1);
        x.melt(0, 1);
        x.on(1);
        due("gone on from twice", x.digest(), y.digest());
        dueFinding(x, "on(0)", x.on(0), NOTHING);
        due("on(3)", x.on(3), BAD);
        due("on(-1)", x.on(-1), BAD);
    }

    // ---- 3 counts

    private static void hands() {
        promise = 24;
        SpoonCensus x = landOf("h046 m046 m004 b046 n046 g046 s046 h064");
        int[][] handed = {{4, 3, 0, 6, 4, 7, 4, 4}, {4, 3, 0, 6, 0, 7, 0, 4}, {4, 3, 0, 6, 4, 7, 0, 4}};
        for (int night = 0; night < 3; night++) {
            for (int law = 0; law < 3; law++) {
                x.law(law);
                for (int h = 0; h < 8; h++) {
                    int counted = handed[night][h] - (h == 5 && law > 0 ? 1 : 0);
                    dueAsked(x, "hands(" + h + ") on night " + night + " by law " + law, x.hands(h), handed[night][h],
                            h == 6 && law == 2 ? 4 : counted);
                }
            }
            x.night();
        }
        due("hands(8)", x.hands(8), BAD);
        due("hands(-1)", x.hands(-1), BAD);
    }

    private static void sack() {
        promise = 25;
        SpoonCensus x = landOf("h046 g146 b057 s133");
        dueAsked(x, "sack(0)", x.sack(0), 11, 9);
        dueAsked(x, "sack(1)", x.sack(1), 10, 7);
        dueAsked(x, "sack(2)", x.sack(2), 0, 0);
        x.law(1);
        due("by law 1", x.sack(1), 9);
        x.night();
        due("on night 1", x.sack(1), 6);
        x.law(2);
        due("by law 2", x.sack(1), 9);
        due("sack(3)", x.sack(3), BAD);
        due("sack(-1)", x.sack(-1), BAD);
    }

    private static void was() {
        promise = 26;
        SpoonCensus x = landOf("h046 g146 n255");
        x.night();
        x.law(1);
        x.melt(0, 3);
        x.night();
        x.law(2);
        int[][] want = {{4, 7, 5}, {3, 6, 0}};
        for (int night = 0; night < 2; night++) {
            for (int p = 0; p < 3; p++) {
                due("was(" + night + ", " + p + ")", x.was(night, p), want[night][p]);
            }
        }
        dueFinding(x, "was(2, 0)", x.was(2, 0), BEYOND);
        dueFinding(x, "was(GREATEST, 0)", x.was(GREATEST, 0), BEYOND);
        x.undo();
        dueFinding(x, "a night undone", x.was(1, 0), BEYOND);
        due("was(-1, 0)", x.was(-1, 0), BAD);
        due("was(LEAST, 0)", x.was(LEAST, 0), BAD);
        due("was(0, 3)", x.was(0, 3), BAD);
        due("was(9, -1)", x.was(9, -1), BAD);
    }

    private static void off() {
        promise = 27;
        SpoonCensus x = landOf("h055 m066 b049 h084");
        dueAsked(x, "off()", x.off(), 1, -1 + 5 - 4);
        dueFraction(x, "off()", x.off(), 1 + 5 + 4, 1);
        x.gone(2);
        dueAsked(x, "off() then", x.off(), 1, 1);
        due("upper()", x.upper(), 11);
        SpoonCensus y = landOf("h090");
        dueAsked(y, "below 0", y.off(), 1, -9);
        SpoonCensus none = new SpoonCensus();
        dueAsked(none, "without houses", none.off(), 1, 0);
        due("upper()", none.upper(), 0);
    }

    private static void liar() {
        promise = 28;
        SpoonCensus x = landOf("h055 h063 b047 b059");
        dueAsked(x, "liar()", x.liar(), 3, 4);
        x.melt(3, 1);
        dueAsked(x, "the first of three", x.liar(), 1, -3);
        SpoonCensus y = landOf("h011 h022");
        dueAsked(y, "nobody lies", y.liar(), 0, 0);
        due("no houses", new SpoonCensus().liar(), STATE);
    }

    private static void best() {
        promise = 29;
        SpoonCensus x = landOf("g055 h044 s033");
        dueAsked(x, "by law 1", x.best(), 1, 0);
        due("the law stays", x.law(0), 0);
        x.night();
        dueAsked(x, "by law 2", x.best(), 2, 0);
        SpoonCensus y = landOf("h044 m099");
        dueAsked(y, "the first", y.best(), 0, 1);
        SpoonCensus z = landOf("g044 m099");
        dueAsked(z, "by law 0", z.best(), 0, 0);
        SpoonCensus none = new SpoonCensus();
        none.law(1);
        dueAsked(none, "without houses", none.best(), 0, 0);
    }

    // ---- 4 what a sack tells

    private static void span() {
        promise = 30;
        SpoonCensus x = landOf("m000 m099 n155 h255 g255 s255");
        dueAsked(x, "two misers, 0", x.span(0, 0), 0, 2);
        dueAsked(x, "two misers, 5", x.span(0, 5), 6, 7);
        dueAsked(x, "two misers, 16", x.span(0, 16), 18, 18);
        dueFinding(x, "two misers, 17", x.span(0, 17), NOUGHT);
        dueFinding(x, "a ghost, 0", x.span(2, 0), NOUGHT);
        dueAsked(x, "a ghost, 1", x.span(2, 1), 0, 0);
        dueAsked(x, "a ghost, 28", x.span(2, 28), 27, 27);
        dueFinding(x, "99", x.span(2, 99), NOUGHT);
        dueAsked(x, "a nomad, 5", x.span(1, 5), 5, 5);
        x.night();
        dueAsked(x, "a nomad elsewhere", x.span(1, 0), 0, 9);
        dueFinding(x, "a nomad elsewhere, 1", x.span(1, 1), NOUGHT);
        due("span(0, 100)", x.span(0, 100), BAD);
        due("span(0, -1)", x.span(0, -1), BAD);
        due("span(3, 0)", x.span(3, 0), BAD);
        due("span(-1, 0)", x.span(-1, 0), BAD);
        SpoonCensus ghosts = landOf("g000g000g000g000g000");
        dueAsked(ghosts, "five ghosts, 50", ghosts.span(0, 50), 45, 45);
        dueAsked(ghosts, "five ghosts, 49", ghosts.span(0, 49), 44, 44);
        dueFinding(ghosts, "five ghosts, 51", ghosts.span(0, 51), NOUGHT);
        dueFinding(ghosts, "five ghosts, 4", ghosts.span(0, 4), NOUGHT);
        SpoonCensus six = landOf("h011h011h011h011h011h011m111");
        due("six houses", six.span(0, 99), SPENT);
        dueAsked(six, "one house", six.span(1, 3), 4, 4);
        dueAsked(six, "no house", six.span(2, 0), 0, 0);
        dueFinding(six, "no house, 1", six.span(2, 1), NOUGHT);
    }

    private static void ways() {
        promise = 31;
        SpoonCensus x = landOf("g000g000g000g000g000s100n100");
        dueFraction(x, "five ghosts, 5", x.ways(0, 5), 1, 1);
        dueFraction(x, "five ghosts, 50", x.ways(0, 50), 1, 1);
        dueFraction(x, "five ghosts, 51", x.ways(0, 51), 0, 1);
        dueFraction(x, "five ghosts, 99", x.ways(0, 99), 0, 1);
        dueFraction(x, "five ghosts, 6", x.ways(0, 6), 5, 1);
        dueFraction(x, "five ghosts, 27", x.ways(0, 27), 6000, 1);
        dueFraction(x, "two, 9", x.ways(1, 9), 10, 1);
        x.law(1);
        dueFraction(x, "by law 1, 0", x.ways(0, 0), 1, 1);
        dueFraction(x, "by law 1, 22", x.ways(0, 22), 6000, 1);
        x.night();
        dueFraction(x, "none there", x.ways(1, 0), 100, 1);
        dueFraction(x, "none there, 3", x.ways(1, 3), 0, 1);
        x.law(2);
        dueFraction(x, "sticks by law 2", x.ways(1, 3), 10, 1);
        dueFraction(x, "no houses", x.ways(2, 0), 1, 1);
        dueFraction(x, "no houses, 1", x.ways(2, 1), 0, 1);
        due("ways(0, 100)", x.ways(0, 100), BAD);
        due("ways(0, -1)", x.ways(0, -1), BAD);
        due("ways(3, 0)", x.ways(3, 0), BAD);
        due("ways(-1, 0)", x.ways(-1, 0), BAD);
        due("six houses", landOf("h211h211h211h211h211h211").ways(2, 0), SPENT);
    }

    private static void odds() {
        promise = 32;
        SpoonCensus x = landOf("m000 h100 h044 n200");
        dueFraction(x, "a miser of none", x.odds(0, 0, 0), 1, 2);
        dueFraction(x, "a miser of one", x.odds(0, 0, 1), 1, 2);
        dueFraction(x, "a miser of two", x.odds(0, 0, 2), 0, 1);
        dueFraction(x, "a house beside it", x.odds(2, 4, 4), 1, 3);
        dueFraction(x, "alone", x.odds(1, 7, 7), 1, 1);
        dueFraction(x, "alone, another", x.odds(1, 7, 8), 0, 1);
        dueFinding(x, "no way", x.odds(1, 10, 9), NOUGHT);
        dueFinding(x, "99", x.odds(1, 99, 0), NOUGHT);
        due("it tells nothing then", x.upper(), 0);
        x.night();
        dueFraction(x, "a nomad elsewhere", x.odds(3, 0, 9), 1, 10);
        due("odds(4, 0, 0)", x.odds(4, 0, 0), BAD);
        due("odds(-1, 0, 0)", x.odds(-1, 0, 0), BAD);
        due("odds(0, 0, 10)", x.odds(0, 0, 10), BAD);
        due("odds(0, 0, -1)", x.odds(0, 0, -1), BAD);
        due("odds(0, 100, 0)", x.odds(0, 100, 0), BAD);
        due("odds(0, -1, 0)", x.odds(0, -1, 0), BAD);
        due("six houses", landOf("h211h211h211h211h211h211").odds(0, 0, 0), SPENT);
    }

    private static void sure() {
        promise = 33;
        SpoonCensus x = landOf("m000 h100 h044 n200 h200 b200");
        due("nought", x.sure(0, 0), 4);
        due("between", x.sure(0, 1), 0);
        due("the most", x.sure(0, 17), 5);
        due("alone", x.sure(1, 4), 2);
        dueFinding(x, "no way", x.sure(0, 18), NOUGHT);
        x.night();
        due("all but the nomad", x.sure(2, 18), 48);
        due("none", x.sure(2, 17), 0);
        due("sure(3, 0)", x.sure(3, 0), BAD);
        due("sure(-1, 0)", x.sure(-1, 0), BAD);
        due("sure(0, 100)", x.sure(0, 100), BAD);
        due("sure(0, -1)", x.sure(0, -1), BAD);
        due("no houses", new SpoonCensus().sure(0, 0), 0);
        due("six houses", landOf("h211h211h211h211h211h211").sure(2, 0), SPENT);
    }

    private static void lost() {
        promise = 34;
        SpoonCensus x = landOf("h044 h155 h266");
        x.night();
        x.gone(2);
        x.night();
        dueAsked(x, "as the log has it", x.lost(0, 1, 15), 5, 1);
        dueAsked(x, "one more", x.lost(0, 1, 16), 6, 0);
        dueAsked(x, "none", x.lost(0, 1, 10), 0, 0);
        due("below 0", x.lost(0, 1, 9), STATE);
        dueAsked(x, "night 1", x.lost(1, 2, 14), 5, 1);
        dueAsked(x, "999", x.lost(1, 0, 999), 989, 0);
        dueFinding(x, "night 2", x.lost(2, 0, 0), BEYOND);
        due("lost(-1, 0, 0)", x.lost(-1, 0, 0), BAD);
        due("lost(0, 3, 0)", x.lost(0, 3, 0), BAD);
        due("lost(0, -1, 0)", x.lost(0, -1, 0), BAD);
        due("lost(0, 0, 1000)", x.lost(0, 0, 1000), BAD);
        due("lost(0, 0, -1)", x.lost(0, 0, -1), BAD);
        due("BAD ahead of BEYOND", x.lost(9, 0, -1), BAD);
    }

    // ---- 5 taxes

    private static void tax() {
        promise = 35;
        SpoonCensus x = landOf("m055");
        due("tax(99, 98)", x.tax(99, 98), 1);
        dueAsked(x, "by 99", x.gains(0), 1, 99);
        due("fine 98 is too low", x.look(), NONE);
        due("tax(99, 99)", x.tax(99, 99), 1);
        due("fine 99", x.look(), 1);
        due("tax(100, 0)", x.tax(100, 0), BAD);
        due("tax(0, 100)", x.tax(0, 100), BAD);
        due("tax(-1, 0)", x.tax(-1, 0), BAD);
        due("tax(0, -1)", x.tax(0, -1), BAD);
        dueAsked(x, "it stays", x.gains(0), 1, 99);
        due("tax(0, 0)", x.tax(0, 0), 1);
        dueAsked(x, "by 0", x.gains(0), 1, 0);
    }

    private static void gains() {
        promise = 36;
        SpoonCensus x = landOf("h044 m055 b036 n066 g044");
        x.tax(5, 0);
        int[] want = {0, 5, -15, 0, -5};
        for (int h = 0; h < 5; h++) {
            dueAsked(x, "gains(" + h + ")", x.gains(h), 1, want[h]);
        }
        x.night();
        dueAsked(x, "a nomad elsewhere", x.gains(3), 1, 30);
        x.law(1);
        dueAsked(x, "a ghost by law 1", x.gains(4), 1, 0);
        due("gains(5)", x.gains(5), BAD);
        due("gains(-1)", x.gains(-1), BAD);
    }

    private static void look() {
        promise = 37;
        SpoonCensus x = landOf("h041 h063 b039 h085 h022");
        x.tax(2, 6);
        dueAsked(x, "one of three", x.look(), 1, 1);
        x.tax(2, 5);
        dueAsked(x, "two", x.look(), 2, 3);
        x.tax(2, 3);
        dueAsked(x, "two of 3 missing are enough", x.look(), 2, 3);
        x.tax(2, 2);
        dueAsked(x, "all who hide", x.look(), 3, 11);
        x.tax(2, 1);
        due("never", x.look(), NONE);
        due("asked() stays", x.asked(), 11);
        x.tax(0, 0);
        dueAsked(x, "no tax", x.look(), 0, 0);
        SpoonCensus y = landOf("h010 h090 h080");
        y.tax(1, 2);
        dueAsked(y, "9 of 18 by fine 2", y.look(), 1, 2);
        SpoonCensus z = landOf("h010 h020 h020 h020");
        z.tax(5, 7);
        dueAsked(z, "the least bits", z.look(), 3, 7);
        SpoonCensus none = new SpoonCensus();
        dueAsked(none, "without houses", none.look(), 0, 0);
    }

    private static void fine() {
        promise = 38;
        SpoonCensus x = landOf("h041 h063 b039 h084 h022");
        x.tax(2, 50);
        int[] want = {NONE, 5, 3, 2, 2, 2, 2, 2, 2};
        for (int k = 0; k <= 8; k++) {
            due("fine(" + k + ")", x.fine(k), want[k]);
        }
        due("fine(9)", x.fine(9), BAD);
        due("fine(-1)", x.fine(-1), BAD);
        x.tax(0, 0);
        due("no tax", x.fine(0), 0);
        SpoonCensus y = landOf("h010 h010 h010");
        y.tax(33, 0);
        due("99", y.fine(1), 99);
        y.tax(34, 0);
        due("more than 99", y.fine(1), NONE);
        due("51", y.fine(2), 51);
        due("without houses", new SpoonCensus().fine(8), 0);
    }

    // ---- 6 spoons led to mouths, the next one, lots

    /** One way of refusing for all four calls. */
    private static void dueRefused(SpoonCensus x, String what, int r, int bites, int answer, int finding) {
        for (int call = 39; call <= 42; call++) {
            promise = call;
            int got = call == 39 ? x.leads(r, bites) : call == 40 ? x.led(r, bites)
                : call == 41 ? x.lead(r, bites, 5) : x.most(r, bites);
            due(what, got, answer);
            due(what + ", the finding", x.finding(), finding);
        }
        due("row 5 stays missing", x.at(5, 0), FINDING);
    }

    private static void leads() {
        SpoonCensus x = new SpoonCensus();
        dueRefused(x, "rows 6, 0", 6, 0, BAD, 0);
        x = new SpoonCensus();
        dueRefused(x, "rows 0, -1", 0, -1, BAD, 0);
        fill(x, 0, 1, 10);
        dueRefused(x, "row 1 is missing", 0, 1, FINDING, NOTHING);
        dueRefused(x, "row 1 is missing, too", 1, 0, FINDING, NOTHING);
        fill(x, 1, 1, 1, 1);
        dueRefused(x, "not as many", 0, 1, FINDING, SIZE);
        fill(x, 1, 1, 1);
        dueRefused(x, "a wear of 10", 0, 1, FINDING, UNLIKE);
        dueRefused(x, "a bite of 10", 1, 0, FINDING, UNLIKE);
        fill(x, 0, 0, -1);
        dueRefused(x, "a wear of -1", 0, 1, FINDING, UNLIKE);
        fill(x, 0, new int[9]);
        dueRefused(x, "nine", 0, 0, FINDING, SIZE);
        promise = 39;
        SpoonCensus y = rowsOf(new int[] {1, 2, 3}, new int[] {2, 3, 3});
        dueFraction(y, "the last two either way", y.leads(0, 1), 2, 1);
        SpoonCensus two = rowsOf(new int[] {1, 4}, new int[] {3, 4});
        dueFraction(two, "2 apart is too far", two.leads(0, 1), 0, 1);
        SpoonCensus z = rowsOf(new int[] {0, 9}, new int[] {9, 8});
        dueFraction(z, "no way", z.leads(0, 1), 0, 1);
        SpoonCensus all = rowsOf(new int[] {5, 5, 5, 5, 5, 5, 5, 5}, new int[] {4, 5, 6, 4, 5, 6, 4, 5});
        dueFraction(all, "all to all", all.leads(0, 1), 40320, 1);
        SpoonCensus none = rowsOf(new int[0], new int[0]);
        dueFraction(none, "none", none.leads(0, 1), 1, 1);
        dueFraction(none, "a row to itself", none.leads(0, 0), 1, 1);
    }

    private static void led() {
        promise = 40;
        SpoonCensus x = rowsOf(new int[] {5, 0, 4, 9}, new int[] {1, 4, 6, 9});
        due("led", x.led(0, 1), 1 + 2 + 4 + 8);
        SpoonCensus y = rowsOf(new int[] {5, 0, 5, 9}, new int[] {1, 4, 6, 9});
        due("two of them are not sure", y.led(0, 1), 2 + 8);
        SpoonCensus z = rowsOf(new int[] {0, 9}, new int[] {9, 8});
        dueFinding(z, "no way", z.led(0, 1), NOUGHT);
        SpoonCensus none = rowsOf(new int[0], new int[0]);
        due("none", none.led(0, 1), 0);
    }

    private static void lead() {
        promise = 41;
        SpoonCensus x = rowsOf(new int[] {5, 4, 3}, new int[] {5, 4, 3});
        x.row(2, 9);
        due("lead(0, 1, 2)", x.lead(0, 1, 2), 1);
        int[] first = {0, 1, 2};
        for (int i = 0; i < 3; i++) {
            due("place " + i, place(x, 2, i), first[i]);
        }
        dueFinding(x, "no more places", x.at(2, 3), BEYOND);
        SpoonCensus y = rowsOf(new int[] {4, 5, 3}, new int[] {4, 3, 5});
        due("lead(0, 1, 0)", y.lead(0, 1, 0), 1);
        int[] turned = {0, 2, 1};
        for (int i = 0; i < 3; i++) {
            due("turned, place " + i, place(y, 0, i), turned[i]);
        }
        SpoonCensus w = rowsOf(new int[] {4, 3}, new int[] {4, 5});
        due("the least can't always be", w.lead(0, 1, 3), 1);
        due("spoon 0", place(w, 3, 0), 1);
        due("spoon 1", place(w, 3, 1), 0);
        SpoonCensus z = rowsOf(new int[] {0, 9}, new int[] {9, 8});
        dueFinding(z, "no way", z.lead(0, 1, 3), NOUGHT);
        due("row 3 stays missing", z.count(6), 2);
        due("lead(0, 1, 6)", z.lead(0, 1, 6), BAD);
        due("lead(5, 1, -1)", z.lead(5, 1, -1), BAD);
        SpoonCensus none = rowsOf(new int[0], new int[0]);
        due("none", none.lead(0, 1, 5), 1);
        due("a row of none is there", none.count(6), 3);
    }

    private static void most() {
        promise = 42;
        SpoonCensus x = rowsOf(new int[] {0, 9, 5}, new int[] {9, 8, 1});
        due("two", x.most(0, 1), 2);
        SpoonCensus y = rowsOf(new int[] {1, 0, 2, 3}, new int[] {0, 2, 4, 9});
        due("three", y.most(0, 1), 3);
        SpoonCensus z = rowsOf(new int[] {0}, new int[] {2});
        due("none", z.most(0, 1), 0);
        SpoonCensus all = rowsOf(new int[] {5, 5, 5, 5, 5, 5, 5, 5}, new int[] {4, 5, 6, 4, 5, 6, 4, 5});
        due("all", all.most(0, 1), 8);
        due("of no spoons", rowsOf(new int[0], new int[0]).most(0, 1), 0);
    }

    private static void next() {
        promise = 43;
        SpoonCensus x = landOf("h099 n155");
        due("no night", x.next(0), STATE);
        x.night();
        due("one night", x.next(0), STATE);
        x.gone(0);
        x.gone(0);
        x.night();
        dueAsked(x, "next(0)", x.next(0), 1, 5);
        dueFraction(x, "next(0)", x.next(0), 8, 1);
        dueAsked(x, "below 0", x.next(1), 1, -5);
        dueFraction(x, "next(1)", x.next(1), 5, 2);
        dueFraction(x, "next(2)", x.next(2), 0, 1);
        x.night();
        dueAsked(x, "the latest two", x.next(0), 1, 7);
        dueFraction(x, "the mean of all", x.next(0), 23, 3);
        due("next(3)", x.next(3), BAD);
        due("next(-1)", x.next(-1), BAD);
        due("BAD ahead of STATE", new SpoonCensus().next(3), BAD);
    }

    private static void years() {
        promise = 44;
        SpoonCensus x = landOf("h055 h144 b233");
        SpoonCensus y = landOf("h055 h144 b233");
        int done = 0;
        long lot = 12345;
        for (int i = 0; i < 40; i++) {
            lot = lot * 48271 % 2147483647;
            int h = (int) (lot % 3);
            int what = (int) (lot / 64 % 4);
            int answer = what == 0 ? y.born(h) : what == 1 ? y.gone(h) : what == 2 ? y.melt(h, 1) : y.lend(h, (h + 1) % 3, 1);
            done += answer >= 0 ? 1 : 0;
        }
        due("years(40, 12345)", x.years(40, 12345), done);
        due("what is then", x.digest(), y.digest());
        due("these are deeds", x.count(8), done);
        due("the last seed", x.years(1, 2147483646) >= 0 ? 1 : 0, 1);
        due("years(0, 1)", x.years(0, 1), BAD);
        due("years(41, 1)", x.years(41, 1), BAD);
        due("years(1, 0)", x.years(1, 0), BAD);
        due("years(1, -1)", x.years(1, -1), BAD);
        due("years(1, GREATEST)", x.years(1, GREATEST), BAD);
        due("one house", landOf("h055").years(1, 1), STATE);
        due("BAD ahead of STATE", landOf("h055").years(1, 0), BAD);
        SpoonCensus empty = landOf("h000 h000");
        int passed = 0;
        for (int seed = 1; seed < 60; seed++) {
            passed += empty.years(1, seed) == 0 ? 1 : 0;
            empty.undo();
        }
        due("what can't be is passed", passed > 20 && passed < 59 ? 1 : 0, 1);
        due("it is no finding", empty.finding(), 0);
    }

    // ---- 7 what is told

    private static void asked() {
        promise = 45;
        SpoonCensus x = landOf("m055 b036");
        fill(x, 0, 7);
        x.lay(0, 0, 8);
        due("lay()", x.asked(), 7);
        x.at(0, 0);
        x.at(0, 1);
        x.lay(9, 0, 0);
        due("a refused one tells nothing", x.asked(), 8);
        x.house(1, 3);
        due("house()", x.asked(), 6);
        x.ways(0, 3);
        x.leads(0, 0);
        x.odds(0, 4, 5);
        x.digest();
        x.count(0);
        x.sure(0, 3);
        x.night();
        x.undo();
        due("others don't tell by it", x.asked(), 6);
        x.span(0, 99);
        x.lost(0, 0, 5);
        x.next(0);
        x.hands(2);
        x.sack(3);
        x.gains(2);
        due("nor those refused", x.asked(), 6);
        x.tax(5, 0);
        due("look() NONE", x.look(), NONE);
        due("nor NONE", x.asked(), 6);
    }

    private static void upper() {
        promise = 46;
        SpoonCensus x = landOf("m055 h144");
        due("before", x.upper(), 0);
        x.off();
        due("off()", x.upper(), 1);
        x.ways(0, 0);
        due("ways()", x.upper(), 2);
        x.house(0, 2);
        x.sure(0, 0);
        x.odds(0, 99, 0);
        x.ways(3, 0);
        x.next(0);
        due("what is refused tells nothing", x.upper(), 2);
        x.odds(0, 0, 5);
        due("odds()", x.upper(), 0);
        nights(x, 2);
        x.next(1);
        due("next()", x.upper(), 4);
        fill(x, 0, 3, 3, 3);
        x.leads(0, 0);
        due("leads()", x.upper(), 6);
    }

    private static void lower() {
        promise = 47;
        SpoonCensus x = landOf("m055 h144");
        due("before", x.lower(), 1);
        x.odds(0, 0, 1);
        due("odds()", x.lower(), 2);
        x.odds(0, 99, 0);
        x.leads(0, 0);
        due("what is refused tells nothing", x.lower(), 2);
        x.off();
        due("off()", x.lower(), 1);
        x.odds(0, 0, 1);
        x.ways(0, 0);
        due("ways()", x.lower(), 1);
        x.odds(0, 0, 1);
        x.odds(0, 0, 2);
        due("0 by 1", x.lower(), 1);
        x.night();
        x.gone(1);
        x.night();
        x.next(1);
        due("next()", x.lower(), 2);
        fill(x, 0, 3, 3, 3);
        x.leads(0, 0);
        due("leads()", x.lower(), 1);
    }

    private static void count() {
        promise = 48;
        SpoonCensus x = landOf("m012 b034 g056 n178 s290 h200");
        x.row(0, 0);
        x.row(3, 2);
        x.row(4, 2);
        x.text(2, 0);
        nights(x, 4);
        x.born(0);
        int[] want = {6, 1 + 3 + 5 + 7 + 9 + 1, 2 + 4 + 6 + 8 + 1, 4, 2, 2, 3, 2, 5};
        for (int what = 0; what <= 8; what++) {
            due("count(" + what + ")", x.count(what), want[what]);
        }
        due("count(9)", x.count(9), BAD);
        due("count(-1)", x.count(-1), BAD);
        due("count(LEAST)", x.count(LEAST), BAD);
    }

    private static void finding() {
        promise = 49;
        SpoonCensus x = landOf("h055");
        due("before", x.finding(), 0);
        x.row(0, -1);
        due("SIZE", x.finding(), SIZE);
        x.row(0, 0);
        x.at(9, 0);
        x.undo();
        due("it stays", x.finding(), SIZE);
        x.mean(0);
        due("NOUGHT", x.finding(), NOUGHT);
        x.mark(0, 1);
        due("UNLIKE", x.finding(), UNLIKE);
        x.at(0, 0);
        due("BEYOND", x.finding(), BEYOND);
        x.on(0);
        due("NOTHING", x.finding(), NOTHING);
        x.land(0);
        due("it stays with a new land", x.finding(), NOTHING);
    }

    private static void findings() {
        promise = 50;
        SpoonCensus x = landOf("h055");
        for (int f = 1; f <= 5; f++) {
            due("findings(" + f + ") before", x.findings(f), 0);
        }
        x.on(0);
        x.on(1);
        x.was(0, 0);
        x.mark(0, 5);
        x.mark(0, 4);
        x.mark(0, 3);
        x.span(1, 1);
        x.row(0, -1);
        x.text(0, -1);
        int[] want = {BAD, 2, 1, 3, 1, 2, BAD};
        for (int f = 0; f <= 6; f++) {
            due("findings(" + f + ")", x.findings(f), want[f]);
        }
        due("findings(LEAST)", x.findings(LEAST), BAD);
        x.on(3);
        x.born(8);
        due("BAD is no finding", x.findings(1), 2);
    }

    private static void digest() {
        promise = 51;
        SpoonCensus x = landOf("g123 h045");
        x.lend(1, 0, 2);
        x.night();
        x.law(1);
        x.tax(4, 9);
        x.keep(1);
        x.night();
        fill(x, 2, -5, 6);
        x.row(4, 0);
        x.text(1, 2);
        x.put(1, 0, 200);
        x.at(2, 1);
        int[] all = {2, 6, 8, 2, 1, 0, 2, 2, 3, 1, 4, 9,
            4, 1, 2, 5, 2, 0, 0, 0, 4, 3, 0, 2,
            0, 0, 2, 0,
            3, 6, 0, 3, 5, 0,
            -1, 1, -1,
            -1, -1, 2, -5, 6, -1, 0, -1,
            9, 'g', '1', '2', '3', ' ', 'h', '0', '4', '5', 2, -56, 32, -1, -1};
        long h = 17;
        for (int v : all) {
            h = 31 * h + v;
        }
        due("digest()", x.digest(), h);
        due("asked() stays", x.asked(), 6);
        due("again", x.digest(), h);
    }
}
