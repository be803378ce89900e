/** Boundaries of counts: promises 24 to 29. */
final class CountBounds extends Boundary {
    private static final Story NO_HOUSES = land("");
    private static final int[] NO_PROVINCES = {-1, 3, LEAST, GREATEST};

    /** House 0, of the kind that the letter tells, has no MOUTHS and 30 SPOONS. */
    private static Story thirtySpoons(char letter) {
        return after(land(letter + "009 h099 h099 h099"), x -> x.lend(1, 0, 9), x -> x.lend(2, 0, 9), x -> x.lend(3, 0, 3));
    }

    // ---- hands

    private static void dueHands(String house, int night, int law, int hands, int counts) {
        asks(after(land(house), nights(night), x -> x.law(law)), "hands(0) of " + house + " on NIGHT " + night + " by LAW " + law,
            x -> x.hands(0), hands, counts);
    }

    private static void dueHandsByAnyLaw(String house, int night, int hands) {
        for (int law = 0; law <= 2; law++) {
            dueHands(house, night, law, hands, hands);
        }
    }

    static void promise24AHouseNoMoreThanItHasMouths() {
        dueHandsByAnyLaw("h043", 0, 3);
        dueHandsByAnyLaw("h044", 0, 4);
        dueHandsByAnyLaw("h045", 0, 4);
        dueHandsByAnyLaw("h090", 0, 0);
        dueHandsByAnyLaw("h009", 0, 0);
        dueHandsByAnyLaw("h099", 1, 9);
    }

    static void promise24AMiserOneLessButNotBelow0() {
        dueHandsByAnyLaw("m000", 0, 0);
        dueHandsByAnyLaw("m009", 0, 0);
        dueHandsByAnyLaw("m090", 0, 0);
        dueHandsByAnyLaw("m011", 0, 0);
        dueHandsByAnyLaw("m022", 0, 1);
        dueHandsByAnyLaw("m029", 1, 1);
        dueHandsByAnyLaw("m092", 1, 1);
        dueHandsByAnyLaw("m099", 0, 8);
    }

    static void promise24ABorrowerAllItsSpoons() {
        dueHandsByAnyLaw("b090", 0, 0);
        dueHandsByAnyLaw("b009", 1, 9);
        asks(thirtySpoons('b'), "hands(0) of 30 SPOONS", x -> x.hands(0), 30, 30);
        asks(thirtySpoons('h'), "hands(0) of a HOUSE without MOUTHS", x -> x.hands(0), 0, 0);
    }

    static void promise24AGhostAWoodenOneBesides() {
        dueHands("g090", 0, 0, 1, 1);
        dueHands("g090", 0, 1, 1, 0);
        dueHands("g090", 0, 2, 1, 0);
        dueHands("g049", 1, 0, 10, 10);
        dueHands("g049", 1, 1, 10, 9);
        dueHands("g049", 1, 2, 10, 9);
        asks(thirtySpoons('g'), "hands(0) of 30 SPOONS", x -> x.hands(0), 31, 31);
        asks(after(thirtySpoons('g'), x -> x.law(1)), "hands(0) of 30 SPOONS by LAW 1", x -> x.hands(0), 31, 30);
    }

    static void promise24ANomadOnEvenAndOddNights() {
        dueHandsByAnyLaw("n045", 0, 4);
        dueHandsByAnyLaw("n045", 1, 0);
        dueHandsByAnyLaw("n054", 2, 4);
        dueHandsByAnyLaw("n054", 3, 0);
        dueHandsByAnyLaw("n045", 29, 0);
        dueHandsByAnyLaw("n045", 30, 4);
    }

    static void promise24SticksOnNightsThat3DividesToo() {
        for (int night = 0; night <= 30; night++) {
            int hands = night % 2 == 0 && night % 3 == 0 ? 4 : 0;
            dueHands("s054", night, 0, hands, hands);
            dueHands("s054", night, 1, hands, hands);
            dueHands("s054", night, 2, hands, 5);
        }
    }

    static void promise24SticksByLaw2AreTheirMouths() {
        dueHands("s009", 0, 2, 0, 0);
        dueHands("s090", 0, 2, 0, 9);
        dueHands("s045", 0, 2, 4, 4);
        dueHands("s099", 1, 2, 0, 9);
    }

    static void promise24HousesThatAreNone() {
        asks(land(EIGHT), "hands(7)", x -> x.hands(7), 1, 1);
        for (int h : new int[] {-1, 8, LEAST, GREATEST}) {
            refuses(land(EIGHT), "hands(" + h + ")", x -> x.hands(h), BAD);
        }
        refuses(land("h055"), "hands(1) of one house", x -> x.hands(1), BAD);
        refuses(NO_HOUSES, "hands(0) without houses", x -> x.hands(0), BAD);
    }

    // ---- sack

    static void promise25ProvincesAre0To2() {
        Story three = land("h043 h154 h298");
        asks(three, "sack(0)", x -> x.sack(0), 3, 4);
        asks(three, "sack(1)", x -> x.sack(1), 4, 5);
        asks(three, "sack(2)", x -> x.sack(2), 8, 9);
        for (int p : NO_PROVINCES) {
            refuses(three, "sack(" + p + ")", x -> x.sack(p), BAD);
        }
    }

    static void promise25AProvinceWithoutHouses() {
        asks(NO_HOUSES, "sack(0) without houses", x -> x.sack(0), 0, 0);
        asks(land("h099 h299"), "sack(1) of none", x -> x.sack(1), 0, 0);
    }

    static void promise25EightHousesOfOneProvince() {
        asks(land("g199 ".repeat(8)), "sack(1)", x -> x.sack(1), 80, 72);
        asks(after(land("g199 ".repeat(8)), x -> x.law(2)), "sack(1) by LAW 2", x -> x.sack(1), 72, 72);
    }

    static void promise25OnTheNightToComeBehindThirty() {
        asks(after(land("n055 s066"), nights(30)), "sack(0) on NIGHT 30", x -> x.sack(0), 11, 11);
        asks(after(land("n055 s066"), nights(29)), "sack(0) on NIGHT 29", x -> x.sack(0), 0, 11);
        asks(after(land("n055 s066"), nights(29), x -> x.law(2)), "sack(0) by LAW 2", x -> x.sack(0), 6, 11);
    }

    // ---- was

    private static final Story TWO_NIGHTS = after(land("g033 h144"), x -> x.night(), x -> x.law(1), x -> x.gone(1), x -> x.night());

    static void promise26NightsAre0ToTheLatest() {
        onlyAnswers(TWO_NIGHTS, "was(0, 0)", x -> x.was(0, 0), 4);
        onlyAnswers(TWO_NIGHTS, "was(1, 1)", x -> x.was(1, 1), 3);
        for (int night : new int[] {2, 3, 29, 30, GREATEST}) {
            finds(TWO_NIGHTS, "was(" + night + ", 0)", x -> x.was(night, 0), BEYOND);
        }
        for (int night : new int[] {-1, LEAST}) {
            refuses(TWO_NIGHTS, "was(" + night + ", 0)", x -> x.was(night, 0), BAD);
        }
    }

    static void promise26NoNightYet() {
        finds(land("h055"), "was(0, 0)", x -> x.was(0, 0), BEYOND);
        finds(NO_HOUSES, "was(0, 0) without houses", x -> x.was(0, 0), BEYOND);
        finds(after(land("h055"), x -> x.night(), x -> x.undo()), "was(0, 0) undone", x -> x.was(0, 0), BEYOND);
    }

    static void promise26ThirtyNights() {
        Story thirty = after(land("h055"), nights(30));
        onlyAnswers(thirty, "was(29, 0)", x -> x.was(29, 0), 5);
        finds(thirty, "was(30, 0)", x -> x.was(30, 0), BEYOND);
        onlyAnswers(after(land("h055"), nights(29)), "was(28, 0)", x -> x.was(28, 0), 5);
        finds(after(land("h055"), nights(29)), "was(29, 0) behind 29 nights", x -> x.was(29, 0), BEYOND);
    }

    static void promise26ProvincesAre0To2() {
        onlyAnswers(TWO_NIGHTS, "was(0, 2)", x -> x.was(0, 2), 0);
        for (int p : NO_PROVINCES) {
            refuses(TWO_NIGHTS, "was(0, " + p + ")", x -> x.was(0, p), BAD);
            refuses(TWO_NIGHTS, "BAD ahead of BEYOND, was(2, " + p + ")", x -> x.was(2, p), BAD);
            refuses(TWO_NIGHTS, "was(-1, " + p + ")", x -> x.was(-1, p), BAD);
        }
    }

    static void promise26ByTheLawThen() {
        onlyAnswers(TWO_NIGHTS, "by LAW 0", x -> x.was(0, 0), 4);
        onlyAnswers(TWO_NIGHTS, "by LAW 1", x -> x.was(1, 0), 3);
        onlyAnswers(after(TWO_NIGHTS, x -> x.law(0)), "by LAW 1, then 0", x -> x.was(1, 0), 3);
        onlyAnswers(after(TWO_NIGHTS, x -> x.law(2), x -> x.melt(0, 3)), "with fewer SPOONS then", x -> x.was(0, 0), 4);
    }

    // ---- off

    private static void dueOff(Story story, String what, int off, int sizes) {
        asks(story, "off() " + what, x -> x.off(), 1, off);
        tells(story, "off() " + what, x -> x.off(), sizes, 1);
    }

    static void promise27WithoutHouses() {
        dueOff(NO_HOUSES, "without houses", 0, 0);
    }

    static void promise27LiesBothWays() {
        dueOff(land("h055"), "of no lie", 0, 0);
        dueOff(land("h054 b045"), "of two that make up for one another", 0, 2);
        dueOff(land("h090 ".repeat(8)), "the farthest below", -72, 72);
        dueOff(land("g009 ".repeat(8)), "far above", 80, 80);
        dueOff(after(land("g009 ".repeat(8)), x -> x.law(1)), "by LAW 1", 72, 72);
        dueOff(after(land("s055 n044"), x -> x.night(), x -> x.law(2)), "by LAW 2", -4, 4);
    }

    // ---- liar

    static void promise28NoHouses() {
        due("of a new object", new SpoonCensus().liar(), STATE);
        refuses(NO_HOUSES, "liar()", x -> x.liar(), STATE);
    }

    static void promise28TheFirstOfEqualSizes() {
        asks(land("h055 h053 b035"), "below ahead of above", x -> x.liar(), 1, -2);
        asks(land("h055 b035 h053"), "above ahead of below", x -> x.liar(), 1, 2);
        asks(land("h055 h044"), "nobody lies", x -> x.liar(), 0, 0);
        asks(land("h053 h053"), "both alike", x -> x.liar(), 0, -2);
    }

    static void promise28FirstAndLastHouse() {
        asks(land("h090"), "one house", x -> x.liar(), 0, -9);
        asks(land("h081 h055 h055"), "the first", x -> x.liar(), 0, -7);
        asks(land("h010 ".repeat(7) + "h020"), "the eighth", x -> x.liar(), 7, -2);
        asks(land("h054 h055 h052"), "the last", x -> x.liar(), 2, -3);
        asks(thirtySpoons('g'), "the greatest lie", x -> x.liar(), 0, 31);
    }

    // ---- best

    static void promise29TheFirstOfEqualOnes() {
        asks(NO_HOUSES, "without houses", x -> x.best(), 0, 0);
        asks(land("h055"), "all alike", x -> x.best(), 0, 0);
        asks(land("g044 s044"), "1 and 2 alike", x -> x.best(), 1, 0);
        asks(land("g044 h051"), "3 too few by LAW 0", x -> x.best(), 0, 3);
        asks(land("g044 g044 h054"), "1 above by LAW 0, 1 below by LAW 1", x -> x.best(), 0, 1);
    }

    static void promise29EachLaw() {
        asks(land("g044 m044"), "LAW 0", x -> x.best(), 0, 0);
        asks(land("g044"), "LAW 1", x -> x.best(), 1, 0);
        asks(after(land("s044"), x -> x.night()), "LAW 2", x -> x.best(), 2, 0);
        asks(land("s054 g044"), "LAW 0 and LAW 2 alike", x -> x.best(), 0, 0);
        asks(land("s053 g044"), "LAW 2 of three", x -> x.best(), 2, 0);
    }

    static void promise29TheLawStays() {
        for (int law = 0; law <= 2; law++) {
            int v = law;
            Story story = after(land("g044"), x -> x.law(v), x -> x.best());
            answers(story, "law(0) behind best()", x -> x.law(0), law);
        }
    }
}
