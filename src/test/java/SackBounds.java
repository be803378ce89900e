/** Boundaries of what a sack tells: promises 30 to 34. */
final class SackBounds extends Boundary {
    private static final Story NO_HOUSES = land("");
    private static final Story THREE = land("h055 m144 g233");
    private static final Story FIVE = land("h055 h044 m033 h022 h011");
    private static final Story SIX = land("h055 h044 h033 h022 h011 h000");
    private static final Story FIVE_GHOSTS = land("g000 ".repeat(5));
    private static final int[] NO_PROVINCES = {-1, 3, LEAST, GREATEST};
    private static final int[] NOT_0_TO_99 = {-1, 100, 101, LEAST, GREATEST};

    private interface OfSack {
        long on(SpoonCensus x, int p, int n);
    }

    /** What span(), ways(), sure() refuse alike: BAD, SPENT. */
    private static void dueRefusals(String call, OfSack of) {
        for (int p : NO_PROVINCES) {
            refuses(THREE, call + "(" + p + ", 0)", x -> of.on(x, p, 0), BAD);
            refuses(SIX, call + "(" + p + ", 100)", x -> of.on(x, p, 100), BAD);
        }
        for (int n : NOT_0_TO_99) {
            refuses(THREE, call + "(0, " + n + ")", x -> of.on(x, 0, n), BAD);
            refuses(NO_HOUSES, call + "(0, " + n + ") without houses", x -> of.on(x, 0, n), BAD);
            refuses(SIX, call + "(0, " + n + "), BAD ahead of SPENT", x -> of.on(x, 0, n), BAD);
        }
        refuses(SIX, call + "(0, 5) of six houses", x -> of.on(x, 0, 5), SPENT);
        refuses(SIX, call + "(0, 99), SPENT ahead of NOUGHT", x -> of.on(x, 0, 99), SPENT);
        refuses(land(EIGHT.replaceAll("([a-z]).", "$11")), call + "(1, 5) of eight houses", x -> of.on(x, 1, 5), SPENT);
    }

    /** What span(), sure() find alike: NOUGHT. */
    private static void dueNought(String call, OfSack of) {
        finds(THREE, call + "(0, 10) of one house", x -> of.on(x, 0, 10), NOUGHT);
        finds(THREE, call + "(1, 9) of a miser", x -> of.on(x, 1, 9), NOUGHT);
        finds(THREE, call + "(2, 0) of a ghost", x -> of.on(x, 2, 0), NOUGHT);
        finds(THREE, call + "(2, 11) of a ghost", x -> of.on(x, 2, 11), NOUGHT);
        finds(after(THREE, y -> y.law(1)), call + "(2, 10) of a ghost by LAW 1", x -> of.on(x, 2, 10), NOUGHT);
        finds(FIVE, call + "(0, 45) of five houses", x -> of.on(x, 0, 45), NOUGHT);
        finds(FIVE, call + "(0, 99) of five houses", x -> of.on(x, 0, 99), NOUGHT);
        finds(FIVE_GHOSTS, call + "(0, 4) of five ghosts", x -> of.on(x, 0, 4), NOUGHT);
        finds(FIVE_GHOSTS, call + "(0, 51) of five ghosts", x -> of.on(x, 0, 51), NOUGHT);
        finds(NO_HOUSES, call + "(0, 1) without houses", x -> of.on(x, 0, 1), NOUGHT);
        finds(after(land("n099"), nights(1)), call + "(0, 1) of a nomad elsewhere", x -> of.on(x, 0, 1), NOUGHT);
    }

    // ---- span

    static void promise30Refused() {
        dueRefusals("span", (x, p, n) -> x.span(p, n));
    }

    static void promise30NoWay() {
        dueNought("span", (x, p, n) -> x.span(p, n));
    }

    static void promise30FirstAndLastSack() {
        asks(THREE, "span(0, 0)", x -> x.span(0, 0), 0, 0);
        asks(THREE, "span(0, 9)", x -> x.span(0, 9), 9, 9);
        asks(THREE, "span(1, 0) of a miser", x -> x.span(1, 0), 0, 1);
        asks(THREE, "span(1, 8) of a miser", x -> x.span(1, 8), 9, 9);
        asks(THREE, "span(2, 1) of a ghost", x -> x.span(2, 1), 0, 0);
        asks(THREE, "span(2, 10) of a ghost", x -> x.span(2, 10), 9, 9);
        asks(FIVE, "span(0, 44) of five houses", x -> x.span(0, 44), 45, 45);
        asks(FIVE, "span(0, 0) of five houses", x -> x.span(0, 0), 0, 1);
        asks(FIVE_GHOSTS, "span(0, 50) of five ghosts", x -> x.span(0, 50), 45, 45);
        asks(FIVE_GHOSTS, "span(0, 5) of five ghosts", x -> x.span(0, 5), 0, 0);
    }

    static void promise30NoHousesThere() {
        asks(NO_HOUSES, "span(0, 0)", x -> x.span(0, 0), 0, 0);
        asks(SIX, "span(1, 0) beside six houses", x -> x.span(1, 0), 0, 0);
    }

    static void promise30NomadsElsewhereCanHaveAnyMouths() {
        Story five = after(land("n000 ".repeat(5)), nights(1));
        asks(five, "span(0, 0)", x -> x.span(0, 0), 0, 45);
        asks(after(land("s000 n000"), nights(1), x -> x.law(2)), "sticks by LAW 2", x -> x.span(0, 9), 9, 18);
    }

    static void promise30SpoonsAndMouthsThatAreThereDontMatter() {
        asks(land("h009"), "span(0, 9) of no MOUTHS", x -> x.span(0, 9), 9, 9);
        asks(land("h090"), "span(0, 9) of no SPOONS", x -> x.span(0, 9), 9, 9);
        asks(land("b009"), "span(0, 4) of a borrower", x -> x.span(0, 4), 4, 4);
    }

    // ---- ways

    static void promise31Refused() {
        dueRefusals("ways", (x, p, n) -> x.ways(p, n));
    }

    static void promise31FewestAndMost() {
        tells(THREE, "ways(0, 10), none", x -> x.ways(0, 10), 0, 1);
        tells(THREE, "ways(0, 99), none", x -> x.ways(0, 99), 0, 1);
        tells(FIVE_GHOSTS, "ways(0, 51), none", x -> x.ways(0, 51), 0, 1);
        tells(THREE, "ways(0, 9), one", x -> x.ways(0, 9), 1, 1);
        tells(THREE, "ways(1, 0), two", x -> x.ways(1, 0), 2, 1);
        tells(FIVE_GHOSTS, "ways(0, 50)", x -> x.ways(0, 50), 1, 1);
        tells(after(land("n000 ".repeat(5)), nights(1)), "ways(0, 0), all", x -> x.ways(0, 0), 100000, 1);
        tells(after(land("n000 ".repeat(5)), nights(1)), "ways(0, 1), none", x -> x.ways(0, 1), 0, 1);
    }

    static void promise31NoHousesThere() {
        tells(NO_HOUSES, "ways(0, 0)", x -> x.ways(0, 0), 1, 1);
        tells(NO_HOUSES, "ways(0, 1)", x -> x.ways(0, 1), 0, 1);
        tells(SIX, "ways(2, 0) beside six houses", x -> x.ways(2, 0), 1, 1);
    }

    static void promise31AllSacksTogetherAreAllRows() {
        SpoonCensus x = told(land("h000 m000 g000 b000 s000"));
        long sum = 0;
        for (int n = 0; n <= 99; n++) {
            x.ways(0, n);
            sum += x.upper();
        }
        due("ways of 0 to 99 together", sum, 100000);
    }

    // ---- odds

    static void promise32HousesThatAreNone() {
        for (int h : new int[] {-1, 3, 8, LEAST, GREATEST}) {
            refuses(THREE, "odds(" + h + ", 0, 0)", x -> x.odds(h, 0, 0), BAD);
        }
        refuses(SIX, "odds(6, 0, 0), BAD ahead of SPENT", x -> x.odds(6, 0, 0), BAD);
        refuses(NO_HOUSES, "odds(0, 0, 0) without houses", x -> x.odds(0, 0, 0), BAD);
    }

    static void promise32SacksAndMouthsThatAreNone() {
        for (int n : NOT_0_TO_99) {
            refuses(THREE, "odds(0, " + n + ", 0)", x -> x.odds(0, n, 0), BAD);
            refuses(SIX, "odds(0, " + n + ", 0), BAD ahead of SPENT", x -> x.odds(0, n, 0), BAD);
        }
        for (int m : new int[] {-1, 10, 11, LEAST, GREATEST}) {
            refuses(THREE, "odds(0, 5, " + m + ")", x -> x.odds(0, 5, m), BAD);
            refuses(SIX, "odds(0, 5, " + m + "), BAD ahead of SPENT", x -> x.odds(0, 5, m), BAD);
            refuses(THREE, "odds(0, 99, " + m + "), BAD ahead of NOUGHT", x -> x.odds(0, 99, m), BAD);
        }
    }

    static void promise32MoreThanFiveHouses() {
        refuses(SIX, "odds(0, 5, 5)", x -> x.odds(0, 5, 5), SPENT);
        refuses(SIX, "odds(5, 99, 5), SPENT ahead of NOUGHT", x -> x.odds(5, 99, 5), SPENT);
        tells(FIVE, "odds(4, 44, 9) of five", x -> x.odds(4, 44, 9), 1, 1);
        Story beside = land("h055 h044 h033 h022 h011 h000 m155");
        tells(beside, "odds(6, 8, 9) beside six", x -> x.odds(6, 8, 9), 1, 1);
        refuses(beside, "odds(0, 8, 9) of six", x -> x.odds(0, 8, 9), SPENT);
    }

    static void promise32NoWay() {
        finds(THREE, "odds(0, 10, 9)", x -> x.odds(0, 10, 9), NOUGHT);
        finds(THREE, "odds(2, 0, 0) of a ghost", x -> x.odds(2, 0, 0), NOUGHT);
        finds(THREE, "odds(0, 99, 0)", x -> x.odds(0, 99, 0), NOUGHT);
        finds(FIVE_GHOSTS, "odds(4, 51, 9)", x -> x.odds(4, 51, 9), NOUGHT);
    }

    static void promise32FromNoneToSure() {
        tells(THREE, "odds(0, 0, 0)", x -> x.odds(0, 0, 0), 1, 1);
        tells(THREE, "odds(0, 9, 9)", x -> x.odds(0, 9, 9), 1, 1);
        tells(THREE, "odds(0, 0, 9), 0 by 1", x -> x.odds(0, 0, 9), 0, 1);
        tells(THREE, "odds(1, 0, 1) of a miser", x -> x.odds(1, 0, 1), 1, 2);
        tells(THREE, "odds(1, 0, 2) of a miser", x -> x.odds(1, 0, 2), 0, 1);
    }

    static void promise32OfThatHouse() {
        tells(FIVE, "odds(1, 0, 1) of a house", x -> x.odds(1, 0, 1), 0, 1);
        tells(FIVE, "odds(2, 0, 1) of the miser", x -> x.odds(2, 0, 1), 1, 2);
        tells(FIVE, "odds(4, 0, 1) of the last house", x -> x.odds(4, 0, 1), 0, 1);
        Story mixed = land("h155 m044 h166 h077 m288 h200");
        tells(mixed, "odds(1, 0, 1) of the miser", x -> x.odds(1, 0, 1), 1, 2);
        tells(mixed, "odds(3, 0, 1) of the house beside it", x -> x.odds(3, 0, 1), 0, 1);
        tells(mixed, "odds(4, 17, 9) of another miser", x -> x.odds(4, 17, 9), 1, 1);
        tells(mixed, "odds(5, 1, 0) of the last one", x -> x.odds(5, 1, 0), 1, 3);
    }

    static void promise32InLowestTerms() {
        Story five = after(land("n000 ".repeat(5)), nights(1));
        tells(five, "10000 by 100000", x -> x.odds(4, 0, 9), 1, 10);
        tells(land("h000 h000"), "1 by 10", x -> x.odds(1, 9, 0), 1, 10);
        tells(land("m000 m000"), "2 by 4", x -> x.odds(0, 0, 1), 1, 2);
    }

    // ---- sure

    static void promise33Refused() {
        dueRefusals("sure", (x, p, n) -> x.sure(p, n));
    }

    static void promise33NoWay() {
        dueNought("sure", (x, p, n) -> x.sure(p, n));
    }

    static void promise33FromNoneToAll() {
        onlyAnswers(FIVE, "sure(0, 0), but the miser", x -> x.sure(0, 0), 27);
        onlyAnswers(FIVE, "sure(0, 44)", x -> x.sure(0, 44), 31);
        onlyAnswers(FIVE, "sure(0, 1)", x -> x.sure(0, 1), 0);
        onlyAnswers(FIVE, "sure(0, 43)", x -> x.sure(0, 43), 0);
        onlyAnswers(FIVE_GHOSTS, "sure(0, 5) of five ghosts", x -> x.sure(0, 5), 31);
        onlyAnswers(FIVE_GHOSTS, "sure(0, 50) of five ghosts", x -> x.sure(0, 50), 31);
        onlyAnswers(land("h200 ".repeat(3) + "h100 ".repeat(5)), "sure(1, 45), the last five", x -> x.sure(1, 45), 248);
        onlyAnswers(land("h200 ".repeat(3) + "h100 ".repeat(5)), "sure(2, 0), the first three", x -> x.sure(2, 0), 7);
    }

    static void promise33NoHousesThere() {
        onlyAnswers(NO_HOUSES, "sure(0, 0)", x -> x.sure(0, 0), 0);
        onlyAnswers(SIX, "sure(1, 0) beside six houses", x -> x.sure(1, 0), 0);
    }

    static void promise33OneSackAskedBehindAnother() {
        SpoonCensus x = told(land("g099 g099 g099 g099 g099 h199 m244 m244"));
        for (int again = 0; again < 2; again++) {
            due("sure(0, 50) of five", x.sure(0, 50), 31);
            due("sure(1, 9) of one", x.sure(1, 9), 32);
            due("span(2, 0) of two", x.span(2, 0), 0);
            due("span(2, 0) of two, asked()", x.asked(), 2);
            due("span(0, 6) of five", x.span(0, 6), 1);
            due("ways(2, 1) of two", x.ways(2, 1), 1);
            due("ways(2, 1) of two, upper()", x.upper(), 4);
            due("odds(6, 1, 2) of two", x.odds(6, 1, 2), 1);
            due("odds(6, 1, 2) of two, upper()", x.upper(), 1);
            due("odds(6, 1, 2) of two, lower()", x.lower(), 2);
            due("ways(0, 6) of five", x.ways(0, 6), 1);
            due("ways(0, 6) of five, upper()", x.upper(), 5);
        }
        x.law(1);
        due("ways(0, 6) of five by LAW 1", x.ways(0, 6), 1);
        due("ways(0, 6) of five by LAW 1, upper()", x.upper(), 210);
        due("odds(6, 1, 0) of two behind it", x.odds(6, 1, 0), 1);
        due("odds(6, 1, 0) of two behind it, upper()", x.upper(), 1);
        due("odds(6, 1, 0) of two behind it, lower()", x.lower(), 4);
    }

    // ---- lost

    /** Sacks of 3, 4, 5, then of 3, 4, 0. */
    private static final Story TWO_NIGHTS = after(land("h033 h144 n255"), nights(2));

    static void promise34NightsThatAreNone() {
        for (int night : new int[] {-1, LEAST}) {
            refuses(TWO_NIGHTS, "lost(" + night + ", 0, 12)", x -> x.lost(night, 0, 12), BAD);
        }
        for (int night : new int[] {2, 30, GREATEST}) {
            finds(TWO_NIGHTS, "lost(" + night + ", 0, 12)", x -> x.lost(night, 0, 12), BEYOND);
        }
        asks(TWO_NIGHTS, "lost(0, 0, 12)", x -> x.lost(0, 0, 12), 3, 1);
        asks(TWO_NIGHTS, "lost(1, 2, 7)", x -> x.lost(1, 2, 7), 0, 1);
        finds(land("h033"), "lost(0, 0, 3) without nights", x -> x.lost(0, 0, 3), BEYOND);
        finds(NO_HOUSES, "lost(0, 0, 0) without houses", x -> x.lost(0, 0, 0), BEYOND);
        asks(after(land("h033"), nights(30)), "lost(29, 0, 3)", x -> x.lost(29, 0, 3), 3, 1);
        finds(after(land("h033"), nights(30)), "lost(30, 0, 3)", x -> x.lost(30, 0, 3), BEYOND);
    }

    static void promise34ProvincesAre0To2() {
        asks(TWO_NIGHTS, "lost(0, 2, 12)", x -> x.lost(0, 2, 12), 5, 1);
        for (int p : NO_PROVINCES) {
            refuses(TWO_NIGHTS, "lost(0, " + p + ", 12)", x -> x.lost(0, p, 12), BAD);
        }
    }

    static void promise34From0To999() {
        asks(TWO_NIGHTS, "lost(0, 0, 999)", x -> x.lost(0, 0, 999), 990, 0);
        for (int n : new int[] {-1, 1000, 1001, LEAST, GREATEST}) {
            refuses(TWO_NIGHTS, "lost(0, 0, " + n + ")", x -> x.lost(0, 0, n), BAD);
        }
        asks(after(land("h033"), nights(1)), "lost(0, 0, 0)", x -> x.lost(0, 0, 0), 0, 0);
        asks(after(land("h033"), nights(1)), "lost(0, 1, 3)", x -> x.lost(0, 1, 3), 0, 1);
    }

    static void promise34ItWouldBeBelow0() {
        asks(TWO_NIGHTS, "lost(0, 0, 9), none", x -> x.lost(0, 0, 9), 0, 0);
        refuses(TWO_NIGHTS, "lost(0, 0, 8)", x -> x.lost(0, 0, 8), STATE);
        refuses(TWO_NIGHTS, "lost(0, 0, 0)", x -> x.lost(0, 0, 0), STATE);
        asks(TWO_NIGHTS, "lost(1, 2, 7), none", x -> x.lost(1, 2, 7), 0, 1);
        refuses(TWO_NIGHTS, "lost(1, 2, 6)", x -> x.lost(1, 2, 6), STATE);
    }

    static void promise34StateLast() {
        refuses(TWO_NIGHTS, "BAD by the PROVINCE ahead of BEYOND", x -> x.lost(2, 3, 0), BAD);
        refuses(TWO_NIGHTS, "BAD by n ahead of BEYOND", x -> x.lost(2, 0, 1000), BAD);
        refuses(TWO_NIGHTS, "BAD by the NIGHT where it would be below 0", x -> x.lost(-1, 0, 0), BAD);
        refuses(TWO_NIGHTS, "BAD by n ahead of STATE", x -> x.lost(0, 0, -1), BAD);
        finds(TWO_NIGHTS, "BEYOND ahead of STATE", x -> x.lost(2, 0, 0), BEYOND);
        finds(after(TWO_NIGHTS, x -> x.undo()), "BEYOND ahead of STATE of a night undone", x -> x.lost(1, 0, 0), BEYOND);
    }
}
