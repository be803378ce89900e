/** Boundaries of spoons led to mouths, of the next sack and of lots: promises 39 to 44. */
final class LeadBounds extends Boundary {
    private static final Story NO_ROWS = x -> { };
    private static final Story NO_HOUSES = land("");
    private static final Story NO_PLACES = after(row(0), row(1));
    private static final Story EIGHT_ALIKE = after(row(0, 5, 5, 5, 5, 5, 5, 5, 5), row(1, 4, 5, 6, 4, 5, 6, 4, 5));
    /** Each spoon has just one mouth. */
    private static final Story EIGHT_SURE = after(row(0, 0, 1, 2, 3, 4, 5, 6, 7), row(1, 1, 2, 3, 4, 5, 6, 7, 8));
    private static final Story NO_WAY = after(row(0, 0, 9), row(1, 9, 8));
    private static final int[] NOT_A_ROW = {-1, 6, LEAST, GREATEST};

    private interface OfRows {
        long on(SpoonCensus x, int r, int bites);
    }

    // ---- what all four refuse

    private static void dueRefusals(String call, OfRows of) {
        dueBad(call, of);
        dueNothing(call, of);
        dueSize(call, of);
        dueUnlike(call, of);
    }

    private static void dueBad(String call, OfRows of) {
        for (int r : NOT_A_ROW) {
            refuses(EIGHT_ALIKE, call + "(" + r + ", 1)", x -> of.on(x, r, 1), BAD);
            refuses(EIGHT_ALIKE, call + "(0, " + r + ")", x -> of.on(x, 0, r), BAD);
            refuses(EIGHT_ALIKE, call + "(" + r + ", 2), BAD ahead of NOTHING", x -> of.on(x, r, 2), BAD);
            refuses(EIGHT_ALIKE, call + "(2, " + r + "), BAD ahead of NOTHING", x -> of.on(x, 2, r), BAD);
            refuses(row(0, new int[9]), call + "(0, " + r + "), BAD ahead of SIZE", x -> of.on(x, 0, r), BAD);
            refuses(row(0, 10), call + "(" + r + ", 0), BAD ahead of UNLIKE", x -> of.on(x, r, 0), BAD);
        }
    }

    private static void dueNothing(String call, OfRows of) {
        finds(NO_ROWS, call + "(0, 1) of none", x -> of.on(x, 0, 1), NOTHING);
        finds(row(1, 5), call + "(0, 1) without spoons", x -> of.on(x, 0, 1), NOTHING);
        finds(row(0, 5), call + "(0, 1) without mouths", x -> of.on(x, 0, 1), NOTHING);
        finds(row(0, new int[9]), call + "(0, 1), NOTHING ahead of SIZE", x -> of.on(x, 0, 1), NOTHING);
        finds(row(1, 10), call + "(0, 1), NOTHING ahead of UNLIKE", x -> of.on(x, 0, 1), NOTHING);
    }

    private static void dueSize(String call, OfRows of) {
        finds(row(0, new int[9]), call + "(0, 0) of nine", x -> of.on(x, 0, 0), SIZE);
        finds(row(0, new int[60]), call + "(0, 0) of sixty", x -> of.on(x, 0, 0), SIZE);
        finds(after(row(0, new int[8]), row(1, new int[9])), call + "(0, 1) of eight to nine", x -> of.on(x, 0, 1), SIZE);
        finds(after(row(0, new int[9]), row(1, new int[8])), call + "(0, 1) of nine to eight", x -> of.on(x, 0, 1), SIZE);
        finds(after(row(0, 1, 1), row(1, 1)), call + "(0, 1) of two to one", x -> of.on(x, 0, 1), SIZE);
        finds(after(row(0), row(1, 1)), call + "(0, 1) of none to one", x -> of.on(x, 0, 1), SIZE);
        finds(after(row(0, 1), row(1)), call + "(0, 1) of one to none", x -> of.on(x, 0, 1), SIZE);
        finds(after(row(0, 10, 1), row(1, 1)), call + "(0, 1), SIZE ahead of UNLIKE", x -> of.on(x, 0, 1), SIZE);
        finds(row(0, 10, 0, 0, 0, 0, 0, 0, 0, 0), call + "(0, 0), SIZE of nine ahead of UNLIKE", x -> of.on(x, 0, 0), SIZE);
    }

    private static void dueUnlike(String call, OfRows of) {
        for (int v : new int[] {-1, 10, LEAST, GREATEST, LEAST + 1}) {
            finds(after(row(0, 5, v), row(1, 5, 5)), call + "(0, 1) of wear " + v, x -> of.on(x, 0, 1), UNLIKE);
            finds(after(row(0, 5, 5), row(1, 5, v)), call + "(0, 1) of bite " + v, x -> of.on(x, 0, 1), UNLIKE);
            finds(after(row(0, v, 0), row(1, v, 9)), call + "(0, 1) of both " + v + ", no way", x -> of.on(x, 0, 1), UNLIKE);
        }
        finds(row(0, 0, 0, 0, 0, 0, 0, 0, 10), call + "(0, 0) of the eighth", x -> of.on(x, 0, 0), UNLIKE);
    }

    // ---- which rows

    private interface Leading {
        long on(SpoonCensus x, int r, int bites);
    }

    /** One spoon and a mouth that fits it: by each row as spoons, each as mouths. */
    private static void dueByEachRow(String name, Leading call, long want) {
        for (int r = 0; r <= 5; r++) {
            for (int bites = 0; bites <= 5; bites++) {
                SpoonCensus x = told(after(row(r, 3), row(bites, 4)));
                due(name + "(" + r + ", " + bites + ")", call.on(x, r, bites), want);
            }
        }
    }

    static void promise39RowsAre0To5() {
        dueByEachRow("leads", (x, r, bites) -> x.leads(r, bites) + 10 * x.upper(), 11);
    }

    static void promise40RowsAre0To5() {
        dueByEachRow("led", (x, r, bites) -> x.led(r, bites), 1);
    }

    static void promise41RowsAre0To5() {
        for (int to = 0; to <= 5; to++) {
            int third = to;
            dueByEachRow("lead to " + to + ", ", (x, r, bites) -> x.lead(r, bites, third) + x.at(third, 0) + x.asked(), 2);
        }
    }

    static void promise42RowsAre0To5() {
        dueByEachRow("most", (x, r, bites) -> x.most(r, bites), 1);
    }

    // ---- leads

    static void promise39Refused() {
        dueRefusals("leads", (x, r, bites) -> x.leads(r, bites));
    }

    static void promise39FromNoneToEight() {
        tells(NO_PLACES, "none", x -> x.leads(0, 1), 1, 1);
        tells(row(5), "none to itself", x -> x.leads(5, 5), 1, 1);
        tells(row(5, 3), "one to itself", x -> x.leads(5, 5), 1, 1);
        tells(EIGHT_ALIKE, "eight, all ways", x -> x.leads(0, 1), 40320, 1);
        tells(EIGHT_SURE, "eight, one way", x -> x.leads(0, 1), 1, 1);
        tells(NO_WAY, "no way", x -> x.leads(0, 1), 0, 1);
        tells(after(row(0, 0, 1, 2, 3, 4, 5, 6, 7), row(1, 0, 1, 2, 3, 4, 5, 6, 9)), "eight, no way", x -> x.leads(0, 1), 0, 1);
    }

    static void promise39OneApartOrLess() {
        for (int wear = 0; wear <= 9; wear++) {
            for (int bite = 0; bite <= 9; bite++) {
                tells(after(row(0, wear), row(1, bite)), wear + " to " + bite, x -> x.leads(0, 1),
                    wear - bite >= -1 && wear - bite <= 1 ? 1 : 0, 1);
            }
        }
    }

    // ---- led

    static void promise40Refused() {
        dueRefusals("led", (x, r, bites) -> x.led(r, bites));
    }

    static void promise40NoWay() {
        finds(NO_WAY, "led(0, 1)", x -> x.led(0, 1), NOUGHT);
        finds(after(row(0, 4), row(1, 6)), "2 apart", x -> x.led(0, 1), NOUGHT);
        finds(after(row(0, 6), row(1, 4)), "2 apart the other way", x -> x.led(0, 1), NOUGHT);
    }

    static void promise40FromNoneToAll() {
        onlyAnswers(NO_PLACES, "of none", x -> x.led(0, 1), 0);
        onlyAnswers(row(0, 7), "of one", x -> x.led(0, 0), 1);
        onlyAnswers(EIGHT_ALIKE, "of eight alike", x -> x.led(0, 1), 0);
        onlyAnswers(EIGHT_SURE, "of eight", x -> x.led(0, 1), 255);
        onlyAnswers(after(row(0, 0, 0, 0, 0, 0, 0, 0, 9), row(1, 0, 0, 0, 0, 0, 0, 0, 8)), "the eighth alone",
            x -> x.led(0, 1), 128);
        onlyAnswers(after(row(0, 9, 0, 0), row(1, 0, 0, 9)), "the first alone", x -> x.led(0, 1), 1);
    }

    // ---- lead

    static void promise41Refused() {
        dueRefusals("lead", (x, r, bites) -> x.lead(r, bites, 3));
        dueRefusals("lead to its own spoons", (x, r, bites) -> x.lead(r, bites, 0));
    }

    static void promise41NoSuchThirdRow() {
        for (int to : NOT_A_ROW) {
            refuses(EIGHT_ALIKE, "lead(0, 1, " + to + ")", x -> x.lead(0, 1, to), BAD);
            refuses(NO_ROWS, "BAD ahead of NOTHING, lead(0, 1, " + to + ")", x -> x.lead(0, 1, to), BAD);
            refuses(row(0, new int[9]), "BAD ahead of SIZE, lead(0, 0, " + to + ")", x -> x.lead(0, 0, to), BAD);
            refuses(row(0, 10), "BAD ahead of UNLIKE, lead(0, 0, " + to + ")", x -> x.lead(0, 0, to), BAD);
            refuses(NO_WAY, "BAD ahead of NOUGHT, lead(0, 1, " + to + ")", x -> x.lead(0, 1, to), BAD);
        }
    }

    static void promise41NoWay() {
        finds(NO_WAY, "to a missing row", x -> x.lead(0, 1, 2), NOUGHT);
        finds(after(NO_WAY, row(2, 1, 2, 3)), "to a row that is there", x -> x.lead(0, 1, 2), NOUGHT);
        finds(NO_WAY, "to one of the two", x -> x.lead(0, 1, 0), NOUGHT);
    }

    static void promise41FromNoneToEight() {
        SpoonCensus x = told(NO_PLACES);
        due("none", x.lead(0, 1, 5), 1);
        due("rows that are there", x.count(6), 3);
        dueRow(x, 5);
        x = told(EIGHT_ALIKE);
        due("eight alike", x.lead(0, 1, 5), 1);
        dueRow(x, 5, 0, 1, 2, 3, 4, 5, 6, 7);
        x = told(after(row(0, 7, 6, 5, 4, 3, 2, 1, 0), row(1, 1, 2, 3, 4, 5, 6, 7, 8)));
        due("eight turned", x.lead(0, 1, 5), 1);
        dueRow(x, 5, 7, 6, 5, 4, 3, 2, 1, 0);
    }

    static void promise41TheThirdRowIsAnew() {
        SpoonCensus x = told(after(EIGHT_SURE, row(2, new int[60]), y -> y.lay(2, 8, 5), y -> y.lead(0, 1, 2)));
        dueRow(x, 2, 0, 1, 2, 3, 4, 5, 6, 7);
        x.row(2, 60);
        x.at(2, 8);
        due("nothing is left of the older one", x.asked(), 0);
        x = told(after(row(0, 5, 5), row(1, 5, 5), row(2), y -> y.lead(0, 1, 2)));
        dueRow(x, 2, 0, 1);
    }

    static void promise41TheThirdRowIsOneOfTheTwo() {
        Story story = after(row(0, 5, 3, 9), row(1, 9, 4, 3));
        SpoonCensus x = told(after(story, y -> y.lead(0, 1, 0)));
        dueRow(x, 0, 1, 2, 0);
        dueRow(x, 1, 9, 4, 3);
        x = told(after(story, y -> y.lead(0, 1, 1)));
        dueRow(x, 0, 5, 3, 9);
        dueRow(x, 1, 1, 2, 0);
        x = told(after(row(4, 9, 9), y -> y.lead(4, 4, 4)));
        dueRow(x, 4, 0, 1);
    }

    static void promise41TheLeastMouthsFromTheFirstSpoonOn() {
        SpoonCensus x = told(after(row(0, 4, 3), row(1, 4, 5), y -> y.lead(0, 1, 2)));
        dueRow(x, 2, 1, 0);
        x = told(after(row(0, 4, 4, 3), row(1, 5, 4, 5), y -> y.lead(0, 1, 2)));
        dueRow(x, 2, 0, 2, 1);
    }

    // ---- most

    static void promise42Refused() {
        dueRefusals("most", (x, r, bites) -> x.most(r, bites));
    }

    static void promise42FromNoneToEight() {
        onlyAnswers(NO_PLACES, "of none", x -> x.most(0, 1), 0);
        onlyAnswers(after(row(0, 0), row(1, 2)), "none of one", x -> x.most(0, 1), 0);
        onlyAnswers(after(row(0, 1), row(1, 2)), "one of one", x -> x.most(0, 1), 1);
        onlyAnswers(EIGHT_ALIKE, "all of eight alike", x -> x.most(0, 1), 8);
        onlyAnswers(EIGHT_SURE, "all of eight", x -> x.most(0, 1), 8);
        onlyAnswers(after(row(0, new int[8]), row(1, 9, 9, 9, 9, 9, 9, 9, 9)), "none of eight", x -> x.most(0, 1), 0);
        onlyAnswers(after(row(0, 0, 1, 2, 3, 4, 5, 6, 7), row(1, 1, 2, 3, 4, 5, 6, 7, 9)), "seven of eight",
            x -> x.most(0, 1), 7);
        onlyAnswers(NO_WAY, "one, though not all", x -> x.most(0, 1), 1);
    }

    static void promise42UnlikeMouths() {
        onlyAnswers(after(row(0, 5, 5), row(1, 5, 0)), "two spoons, one mouth", x -> x.most(0, 1), 1);
        onlyAnswers(after(row(0, 5, 0), row(1, 5, 5)), "one spoon, two mouths", x -> x.most(0, 1), 1);
        onlyAnswers(after(row(0, 1, 0), row(1, 1, 2)), "the first makes room", x -> x.most(0, 1), 2);
    }

    static void promise42OneAskedBehindAnother() {
        SpoonCensus x = told(after(EIGHT_ALIKE, row(2, 0, 9), row(3, 9, 8), row(4, 7)));
        for (int again = 0; again < 2; again++) {
            due("most(0, 1) of eight", x.most(0, 1), 8);
            due("most(2, 3) of two", x.most(2, 3), 1);
            due("leads(4, 4) of one", x.leads(4, 4), 1);
            due("leads(4, 4) of one, upper()", x.upper(), 1);
            due("led(4, 4) of one", x.led(4, 4), 1);
            due("led(0, 1) of eight", x.led(0, 1), 0);
            due("leads(2, 3) of two", x.leads(2, 3), 1);
            due("leads(2, 3) of two, upper()", x.upper(), 0);
            due("leads(0, 1) of eight", x.leads(0, 1), 1);
            due("leads(0, 1) of eight, upper()", x.upper(), 40320);
        }
        EIGHT_SURE.tell(x);
        due("led(0, 1) of eight that are sure", x.led(0, 1), 255);
        due("most(0, 1) of eight that are sure", x.most(0, 1), 8);
        due("led(0, 1) of eight that are sure, again", x.led(0, 1), 255);
    }

    // ---- next

    static void promise43FewerThanTwoNights() {
        Story land = land("h055 h144 n233");
        refuses(land, "next(0) of no NIGHT", x -> x.next(0), STATE);
        refuses(after(land, nights(1)), "next(0) of one NIGHT", x -> x.next(0), STATE);
        asks(after(land, nights(2)), "next(0) of two NIGHTS", x -> x.next(0), 1, 5);
        refuses(after(land, nights(2), x -> x.undo()), "next(0) of one NIGHT left", x -> x.next(0), STATE);
        refuses(NO_HOUSES, "next(0) without houses", x -> x.next(0), STATE);
    }

    static void promise43ProvincesAre0To2() {
        Story two = after(land("h055 h144 n233"), nights(2));
        asks(two, "next(2)", x -> x.next(2), 1, -3);
        for (int p : new int[] {-1, 3, LEAST, GREATEST}) {
            refuses(two, "next(" + p + ")", x -> x.next(p), BAD);
            refuses(land("h055"), "BAD ahead of STATE, next(" + p + ")", x -> x.next(p), BAD);
        }
        asks(after(land("h055"), nights(2)), "next(1) of no houses", x -> x.next(1), 1, 0);
        tells(after(land("h055"), nights(2)), "next(1) of no houses", x -> x.next(1), 0, 1);
    }

    static void promise43BelowAndAbove0() {
        Story falls = after(land("g099"), x -> x.night(), x -> x.law(1), x -> x.melt(0, 9), x -> x.night());
        asks(falls, "10, then none", x -> x.next(0), 1, -10);
        tells(falls, "10, then none", x -> x.next(0), 5, 1);
        Story rises = after(land("n199 ".repeat(8)), nights(3));
        asks(rises, "none, then 72", x -> x.next(1), 1, 144);
        tells(rises, "72, none, 72", x -> x.next(1), 48, 1);
    }

    static void promise43ThirtyNights() {
        Story thirty = after(land("n011"), nights(29), x -> x.law(2), x -> x.night());
        asks(thirty, "next(0)", x -> x.next(0), 1, -1);
        tells(thirty, "15 of 30", x -> x.next(0), 1, 2);
        tells(after(land("s011"), nights(30)), "5 of 30", x -> x.next(0), 1, 6);
        tells(after(land("n011"), nights(29)), "15 of 29", x -> x.next(0), 15, 29);
    }

    // ---- years

    private static final Story TWO = land("h055 h155");

    private static int lot(long seed) {
        return (int) (48271 * seed % 2147483647);
    }

    static void promise44From1To40() {
        answers(TWO, "years(1, 1)", x -> x.years(1, 1), 1);
        answers(after(TWO, x -> x.years(1, 1)), "deeds behind years(1, 1)", x -> x.count(8), 1);
        for (int n : new int[] {0, -1, 41, 42, LEAST, GREATEST}) {
            refuses(TWO, "years(" + n + ", 1)", x -> x.years(n, 1), BAD);
            refuses(NO_HOUSES, "BAD ahead of STATE, years(" + n + ", 1)", x -> x.years(n, 1), BAD);
        }
        SpoonCensus x = told(TWO);
        SpoonCensus y = told(TWO);
        int seed = 4711;
        int done = 0;
        for (int year = 0; year < 40; year++) {
            done += y.years(1, seed);
            seed = lot(seed);
        }
        due("years(40, 4711)", x.years(40, 4711), done);
        same("40 years at once", x, y);
    }

    static void promise44SeedsFrom1ToOneBelowTheModulus() {
        // 48271: house 1, 754 by 4 leaves 2
        SpoonCensus x = told(after(TWO, y -> y.years(1, 1)));
        due("seed 1 melts", x.undo(), 2);
        // 2147435376: house 0, 33553677 by 4 leaves 1
        x = told(after(TWO, y -> y.years(1, 2147483646)));
        due("mouths are gone by seed 2147483646", x.count(1), 9);
        due("seed 2147483646 lets one go", x.undo(), 4);
        for (int seed : new int[] {0, -1, GREATEST, LEAST, LEAST + 1}) {
            refuses(TWO, "years(1, " + seed + ")", y -> y.years(1, seed), BAD);
            refuses(land("h055"), "BAD ahead of STATE, years(1, " + seed + ")", y -> y.years(1, seed), BAD);
        }
    }

    static void promise44FewerThanTwoHouses() {
        refuses(NO_HOUSES, "years(1, 1) without houses", x -> x.years(1, 1), STATE);
        refuses(land("h055"), "years(40, 1) of one house", x -> x.years(40, 1), STATE);
        answers(TWO, "years(1, 1) of two houses", x -> x.years(1, 1), 1);
        answers(land(EIGHT), "years(1, 1) of eight houses", x -> x.years(1, 1), 1);
    }

    private static int seedOf(int houses, int house, int what) {
        int seed = 1;
        while (lot(seed) % houses != house || lot(seed) / 64 % 4 != what) {
            seed++;
        }
        return seed;
    }

    static void promise44EachDeedOfEachHouse() {
        Story eight = land("h055 ".repeat(8));
        for (int house = 0; house < 8; house++) {
            int h = house;
            Story[] deeds = {x -> x.born(h), x -> x.gone(h), x -> x.melt(h, 1), x -> x.lend(h, (h + 1) % 8, 1)};
            for (int what = 0; what < 4; what++) {
                int seed = seedOf(8, h, what);
                SpoonCensus x = told(eight);
                due("years(1, " + seed + ")", x.years(1, seed), 1);
                same("deed " + what + " of house " + h, x, told(after(eight, deeds[what])));
            }
        }
    }

    static void promise44TheLastOneLendsToTheFirst() {
        for (int houses = 2; houses <= 8; houses++) {
            int seed = seedOf(houses, houses - 1, 3);
            SpoonCensus x = told(after(land("h055 ".repeat(houses)), y -> y.years(1, seed)));
            x.house(0, 3);
            due("SPOONS of the first of " + houses, x.asked(), 6);
            x.house(houses - 1, 4);
            due("DEBTS of the last of " + houses, x.asked(), 0);
            x.house(0, 4);
            due("DEBTS of the first of " + houses, x.asked(), 1);
        }
    }

    static void promise44WhatCantBeIsPassed() {
        onlyAnswers(land("h090 h090"), "born() of 9 MOUTHS", x -> x.years(1, seedOf(2, 0, 0)), 0);
        onlyAnswers(land("h009 h009"), "gone() of no MOUTHS", x -> x.years(1, seedOf(2, 0, 1)), 0);
        onlyAnswers(land("h090 h090"), "melt() of no SPOONS", x -> x.years(1, seedOf(2, 1, 2)), 0);
        onlyAnswers(land("h090 h099"), "lend() of no SPOONS", x -> x.years(1, seedOf(2, 0, 3)), 0);
        Story thirty = after(land("h009 h099 h099 h099"), x -> x.lend(1, 0, 9), x -> x.lend(2, 0, 9), x -> x.lend(3, 0, 3));
        onlyAnswers(thirty, "born() with 30 SPOONS", x -> x.years(1, seedOf(4, 0, 0)), 0);
        onlyAnswers(thirty, "lend() to 30 SPOONS", x -> x.years(1, seedOf(4, 3, 3)), 0);
    }

    static void promise44TheseAreDeeds() {
        SpoonCensus x = told(land("h055 ".repeat(8)));
        SpoonCensus twin = told(land("h055 ".repeat(8)));
        int done = x.years(40, 7);
        due("kept in mind", x.count(8), done);
        for (int i = 0; i < done; i++) {
            x.undo();
        }
        same("40 years undone", x, twin);
        x = told(land("h055 ".repeat(8)));
        done = x.years(40, 7) + x.years(40, 8);
        due("more than 60 are done", done > 60 ? 1 : 0, 1);
        due("60 are kept in mind", x.count(8), 60);
    }
}
