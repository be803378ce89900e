/** Boundaries of a new object, of houses and laws: promises 1 and 12 to 14. */
final class HouseBounds extends Boundary {
    private static final Story NO_HOUSES = land("");
    private static final Story KINDS = land("h055 m055 b055 n055 g055 s055");
    private static final int[] NO_HOUSE_OF_SIX = {-1, 6, 8, LEAST, GREATEST};

    // ---- a new object

    static void promise01NoRowsNoTexts() {
        for (int i = 0; i <= 5; i++) {
            SpoonCensus x = new SpoonCensus();
            due("tear(" + i + ")", x.tear(i), FINDING);
            due("finding()", x.finding(), NOTHING);
        }
        for (int i = 0; i <= 3; i++) {
            SpoonCensus x = new SpoonCensus();
            due("put(" + i + ", 0, 1)", x.put(i, 0, 1), FINDING);
            due("finding()", x.finding(), NOTHING);
        }
    }

    static void promise01NoHouses() {
        for (int what = 0; what <= 8; what++) {
            due("count(" + what + ")", new SpoonCensus().count(what), 0);
        }
        due("house(0, 0)", new SpoonCensus().house(0, 0), BAD);
        due("born(0)", new SpoonCensus().born(0), BAD);
        due("night()", new SpoonCensus().night(), STATE);
        due("undo()", new SpoonCensus().undo(), STATE);
        due("was(0, 0)", new SpoonCensus().was(0, 0), FINDING);
        for (int k = 0; k < 3; k++) {
            due("on(" + k + ")", new SpoonCensus().on(k), FINDING);
        }
    }

    static void promise01Law0Tax1Fine0() {
        due("law(1)", new SpoonCensus().law(1), 0);
        SpoonCensus x = new SpoonCensus();
        SpoonCensus y = new SpoonCensus();
        y.law(0);
        y.tax(1, 0);
        due("digest() with LAW 0, TAX 1, FINE 0 set", y.digest(), x.digest());
    }

    static void promise01EachObjectIsItsOwn() {
        SpoonCensus x = told(after(KINDS, row(0, 1, 2), y -> y.law(2), y -> y.night()));
        due("digest() of a new one beside it", new SpoonCensus().digest(), new SpoonCensus().digest());
        due("count(0) of a new one beside it", new SpoonCensus().count(0), 0);
        due("count(0) of the other", x.count(0), 6);
    }

    // ---- house

    static void promise12HousesAre0ToTheLast() {
        asks(KINDS, "house(0, 0)", x -> x.house(0, 0), 1, 0);
        asks(KINDS, "house(5, 0)", x -> x.house(5, 0), 1, 5);
        for (int h : NO_HOUSE_OF_SIX) {
            refuses(KINDS, "house(" + h + ", 0)", x -> x.house(h, 0), BAD);
        }
        asks(land(EIGHT), "house(7, 3) of eight", x -> x.house(7, 3), 1, 1);
        refuses(land(EIGHT), "house(8, 3) of eight", x -> x.house(8, 3), BAD);
        asks(land("h012"), "house(0, 3) of one", x -> x.house(0, 3), 1, 2);
        refuses(land("h012"), "house(1, 3) of one", x -> x.house(1, 3), BAD);
        refuses(NO_HOUSES, "house(0, 3) of none", x -> x.house(0, 3), BAD);
        refuses(after(land(EIGHT), land("h012")), "house(1, 3) of one behind eight", x -> x.house(1, 3), BAD);
    }

    static void promise12FiguresAre0To5() {
        asks(KINDS, "house(1, 5)", x -> x.house(1, 5), 1, 0);
        for (int what : new int[] {-1, 6, 7, LEAST, GREATEST}) {
            refuses(KINDS, "house(1, " + what + ")", x -> x.house(1, what), BAD);
            refuses(KINDS, "house(6, " + what + ")", x -> x.house(6, what), BAD);
        }
    }

    static void promise12DebtsToAllOthersTogether() {
        SpoonCensus x = told(land("h099 ".repeat(8)));
        for (int a = 1; a < 8; a++) {
            x.lend(a, 0, 3);
        }
        x.lend(0, 7, 9);
        int[] debts = {21, 0, 0, 0, 0, 0, 0, 9};
        int[] owed = {9, 3, 3, 3, 3, 3, 3, 3};
        for (int h = 0; h < 8; h++) {
            x.house(h, 4);
            due("house(" + h + ", 4), asked()", x.asked(), debts[h]);
            x.house(h, 5);
            due("house(" + h + ", 5), asked()", x.asked(), owed[h]);
        }
    }

    // ---- mark

    static void promise13HousesAndKindsThatAreNone() {
        for (int h : NO_HOUSE_OF_SIX) {
            refuses(KINDS, "mark(" + h + ", 1)", x -> x.mark(h, 1), BAD);
        }
        for (int kind : new int[] {0, -1, 6, LEAST, GREATEST}) {
            for (int h = 0; h < 6; h++) {
                int house = h;
                refuses(KINDS, "mark(" + h + ", " + kind + "), BAD ahead of UNLIKE", x -> x.mark(house, kind), BAD);
            }
            refuses(KINDS, "mark(6, " + kind + ")", x -> x.mark(6, kind), BAD);
        }
        refuses(NO_HOUSES, "mark(0, 1) without houses", x -> x.mark(0, 1), BAD);
    }

    static void promise13AHouseOfAnotherKind() {
        String[] kinds = {"", "1", "2", "3", "24", "35"};
        for (int h = 0; h < 6; h++) {
            for (int kind = 1; kind <= 5; kind++) {
                int house = h;
                int asked = kind;
                if (kinds[h].indexOf('0' + kind) < 0) {
                    finds(KINDS, "mark(" + h + ", " + kind + ")", x -> x.mark(house, asked), UNLIKE);
                }
            }
        }
    }

    private static void dueMark(String house, int kind, int want) {
        onlyAnswers(land(house), "mark(0, " + kind + ") of " + house, x -> x.mark(0, kind), want);
    }

    static void promise13AMiserHandsInNoneAtLeast() {
        dueMark("m000", 1, 0);
        dueMark("m009", 1, 0);
        dueMark("m090", 1, 0);
        dueMark("m011", 1, 1);
        dueMark("m019", 1, 1);
        dueMark("m091", 1, 1);
        dueMark("m099", 1, 1);
    }

    static void promise13ABorrowersSpoonsMoreThanMouths() {
        dueMark("b090", 2, -9);
        dueMark("b054", 2, -1);
        dueMark("b055", 2, 0);
        dueMark("b056", 2, 1);
        dueMark("b009", 2, 9);
        dueMark("g090", 2, -9);
        dueMark("g009", 2, 9);
        Story thirty = after(land("g009 h099 h099 h099"), x -> x.lend(1, 0, 9), x -> x.lend(2, 0, 9), x -> x.lend(3, 0, 3));
        onlyAnswers(thirty, "mark(0, 2) of 30 SPOONS", x -> x.mark(0, 2), 30);
    }

    static void promise13ANomadIsThereOrNot() {
        dueMark("n000", 3, 1);
        dueMark("s000", 3, 1);
        for (int night = 0; night <= 30; night++) {
            Story then = after(KINDS, nights(night));
            answers(then, "a nomad on night " + night, x -> x.mark(3, 3), night % 2 == 0 ? 1 : 0);
            answers(then, "sticks on night " + night, x -> x.mark(5, 3), night % 6 == 0 ? 1 : 0);
        }
    }

    static void promise13AGhostByLaw1() {
        dueMark("g090", 4, 0);
        dueMark("g001", 4, 1);
        dueMark("g009", 4, 9);
        for (int law = 0; law <= 2; law++) {
            int v = law;
            onlyAnswers(after(land("g037"), x -> x.law(v)), "while the LAW is " + law, x -> x.mark(0, 4), 7);
        }
    }

    static void promise13SticksInHowManyNights() {
        for (int night = 0; night <= 30; night++) {
            int in = 0;
            while ((night + in) % 2 != 0 || (night + in) % 3 != 0) {
                in++;
            }
            answers(after(KINDS, nights(night)), "on night " + night, x -> x.mark(5, 5), in);
        }
    }

    // ---- law

    static void promise14LawsAre0To2() {
        for (int was = 0; was <= 2; was++) {
            for (int v = 0; v <= 2; v++) {
                int before = was;
                int then = v;
                answers(x -> x.law(before), "law(" + v + ") behind law(" + was + ")", x -> x.law(then), was);
            }
        }
        for (int v : new int[] {-1, 3, LEAST, GREATEST}) {
            refuses(after(KINDS, x -> x.law(2)), "law(" + v + ")", x -> x.law(v), BAD);
            refuses(NO_HOUSES, "law(" + v + ") without houses", x -> x.law(v), BAD);
        }
    }

    static void promise14ItIsNoDeed() {
        refuses(after(KINDS, x -> x.law(2)), "undo()", x -> x.undo(), STATE);
    }
}
