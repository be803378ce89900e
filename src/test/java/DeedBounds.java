import java.util.ArrayDeque;
import java.util.Deque;

/** Boundaries of deeds, of what is kept: promises 15 to 23. */
final class DeedBounds extends Boundary {
    private static final Story NO_HOUSES = land("");
    private static final Story FOUR = land("h099 h099 h099 h099");
    /** House 0 has 29 spoons: 9 of its own, 9 of 1's, 9 of 2's, 2 of 3's. */
    private static final Story TWENTY_NINE = after(FOUR, x -> x.lend(1, 0, 9), x -> x.lend(2, 0, 9), x -> x.lend(3, 0, 2));
    private static final Story THIRTY = after(TWENTY_NINE, x -> x.lend(3, 0, 1));
    private static final int[] NOT_1_TO_9 = {0, -1, 10, 11, LEAST, GREATEST};
    private static final int[] NO_HOUSE_OF_FOUR = {-1, 4, 8, LEAST, GREATEST};
    private static final int[] NO_PLACE = {-1, 3, LEAST, GREATEST};

    private static void dueFigure(SpoonCensus x, int h, int what, int want) {
        due("house(" + h + ", " + what + ")", x.house(h, what), 1);
        due("house(" + h + ", " + what + "), asked()", x.asked(), want);
    }

    // ---- lend

    static void promise15From1To9Spoons() {
        answers(FOUR, "lend(0, 1, 1)", x -> x.lend(0, 1, 1), 1);
        answers(FOUR, "lend(0, 1, 9)", x -> x.lend(0, 1, 9), 9);
        for (int n : NOT_1_TO_9) {
            refuses(FOUR, "lend(0, 1, " + n + ")", x -> x.lend(0, 1, n), BAD);
        }
    }

    static void promise15HousesThatAreNone() {
        for (int h : NO_HOUSE_OF_FOUR) {
            refuses(FOUR, "lend(" + h + ", 1, 1)", x -> x.lend(h, 1, 1), BAD);
            refuses(FOUR, "lend(1, " + h + ", 1)", x -> x.lend(1, h, 1), BAD);
            refuses(FOUR, "lend(" + h + ", " + h + ", 1)", x -> x.lend(h, h, 1), BAD);
        }
        answers(FOUR, "lend(3, 0, 1)", x -> x.lend(3, 0, 1), 1);
        answers(FOUR, "lend(0, 3, 1)", x -> x.lend(0, 3, 1), 1);
        refuses(NO_HOUSES, "lend(0, 1, 1) without houses", x -> x.lend(0, 1, 1), BAD);
        refuses(land("h099"), "lend(0, 1, 1) of one house", x -> x.lend(0, 1, 1), BAD);
    }

    static void promise15OneAndTheSame() {
        for (int h = 0; h < 4; h++) {
            int house = h;
            refuses(FOUR, "lend(" + h + ", " + h + ", 1)", x -> x.lend(house, house, 1), BAD);
        }
    }

    static void promise15AllThatItHas() {
        answers(land("h003 h000"), "lend(0, 1, 3) of 3", x -> x.lend(0, 1, 3), 3);
        refuses(land("h003 h000"), "lend(0, 1, 4) of 3", x -> x.lend(0, 1, 4), STATE);
        refuses(land("h000 h000"), "lend(0, 1, 1) of none", x -> x.lend(0, 1, 1), STATE);
        refuses(after(land("h003 h000"), x -> x.lend(0, 1, 3)), "lend(0, 1, 1) then", x -> x.lend(0, 1, 1), STATE);
        SpoonCensus x = told(after(land("h003 h000"), y -> y.lend(0, 1, 3)));
        dueFigure(x, 0, 3, 0);
        dueFigure(x, 1, 3, 3);
    }

    static void promise15ThirtySpoonsOfTheOtherOne() {
        answers(TWENTY_NINE, "the 30th", x -> x.lend(3, 0, 1), 3);
        refuses(TWENTY_NINE, "the 30th and the 31st", x -> x.lend(3, 0, 2), STATE);
        refuses(THIRTY, "the 31st", x -> x.lend(3, 0, 1), STATE);
        dueFigure(told(THIRTY), 0, 3, 30);
        answers(THIRTY, "one that has 30 lends", x -> x.lend(0, 3, 9), 9);
    }

    static void promise15BothFit() {
        refuses(land("h000 h000"), "BAD by n ahead of STATE", x -> x.lend(0, 1, 10), BAD);
        refuses(land("h000 h000"), "BAD by one and the same ahead of STATE", x -> x.lend(0, 0, 1), BAD);
        refuses(THIRTY, "it has not so many, the other one would have too many", x -> x.lend(1, 0, 1), STATE);
        refuses(THIRTY, "BAD by n where the other one would have too many", x -> x.lend(3, 0, 10), BAD);
    }

    static void promise15DebtsBothWaysHaveNoBound() {
        SpoonCensus x = told(land("h009 h009"));
        for (int i = 1; i <= 20; i++) {
            due("lend(0, 1, 9)", x.lend(0, 1, 9), 9 * i);
            due("lend(1, 0, 9)", x.lend(1, 0, 9), 9 * i);
        }
        dueFigure(x, 0, 4, 180);
        dueFigure(x, 0, 5, 180);
    }

    // ---- back

    private static final Story LENT_9 = after(FOUR, x -> x.lend(0, 1, 9));

    static void promise16From1To9Spoons() {
        answers(LENT_9, "back(0, 1, 1)", x -> x.back(0, 1, 1), 8);
        answers(LENT_9, "back(0, 1, 9)", x -> x.back(0, 1, 9), 0);
        for (int n : NOT_1_TO_9) {
            refuses(LENT_9, "back(0, 1, " + n + ")", x -> x.back(0, 1, n), BAD);
        }
    }

    static void promise16HousesThatAreNone() {
        for (int h : NO_HOUSE_OF_FOUR) {
            refuses(LENT_9, "back(" + h + ", 1, 1)", x -> x.back(h, 1, 1), BAD);
            refuses(LENT_9, "back(0, " + h + ", 1)", x -> x.back(0, h, 1), BAD);
        }
        answers(after(FOUR, x -> x.lend(3, 0, 2)), "back(3, 0, 2)", x -> x.back(3, 0, 2), 0);
        refuses(NO_HOUSES, "back(0, 1, 1) without houses", x -> x.back(0, 1, 1), BAD);
    }

    static void promise16OneAndTheSame() {
        for (int h = 0; h < 4; h++) {
            int house = h;
            refuses(LENT_9, "back(" + h + ", " + h + ", 1)", x -> x.back(house, house, 1), BAD);
        }
    }

    static void promise16TheDebtIsLess() {
        Story lent4 = after(FOUR, x -> x.lend(0, 1, 4));
        answers(lent4, "all that was lent", x -> x.back(0, 1, 4), 0);
        refuses(lent4, "one more", x -> x.back(0, 1, 5), STATE);
        refuses(lent4, "the other way", x -> x.back(1, 0, 1), STATE);
        refuses(lent4, "to another one", x -> x.back(2, 1, 1), STATE);
        refuses(FOUR, "no DEBT", x -> x.back(0, 1, 1), STATE);
        refuses(after(lent4, x -> x.back(0, 1, 4)), "given back", x -> x.back(0, 1, 1), STATE);
    }

    static void promise16ItHasNotSoMany() {
        Story left3 = after(land("h009 h000"), x -> x.lend(0, 1, 8), x -> x.melt(1, 5));
        answers(left3, "3 of 3", x -> x.back(0, 1, 3), 5);
        refuses(left3, "4 of 3", x -> x.back(0, 1, 4), STATE);
    }

    static void promise16ThirtySpoonsOfTheLender() {
        // 0 lent 4 to 3, then has 30 again, or 29
        Story thirty = after(land("h099 h099 h099 h099 h099"), x -> x.lend(0, 3, 4), x -> x.lend(1, 0, 9), x -> x.lend(2, 0, 9),
            x -> x.lend(4, 0, 7));
        refuses(thirty, "it would have 31", x -> x.back(0, 3, 1), STATE);
        Story twentyNine = after(thirty, x -> x.melt(0, 1));
        answers(twentyNine, "it has 30 then", x -> x.back(0, 3, 1), 3);
        refuses(twentyNine, "2 would be too many", x -> x.back(0, 3, 2), STATE);
    }

    static void promise16BothFit() {
        refuses(FOUR, "BAD by n ahead of STATE", x -> x.back(0, 1, 10), BAD);
        refuses(FOUR, "BAD by one and the same ahead of STATE", x -> x.back(1, 1, 1), BAD);
        refuses(land("h000 h000"), "no DEBT and no SPOONS", x -> x.back(0, 1, 1), STATE);
    }

    // ---- melt

    static void promise17From1To9Spoons() {
        answers(FOUR, "melt(0, 1)", x -> x.melt(0, 1), 8);
        answers(FOUR, "melt(0, 9)", x -> x.melt(0, 9), 0);
        for (int n : NOT_1_TO_9) {
            refuses(FOUR, "melt(0, " + n + ")", x -> x.melt(0, n), BAD);
        }
    }

    static void promise17HousesThatAreNone() {
        answers(FOUR, "melt(3, 1)", x -> x.melt(3, 1), 8);
        for (int h : NO_HOUSE_OF_FOUR) {
            refuses(FOUR, "melt(" + h + ", 1)", x -> x.melt(h, 1), BAD);
        }
        refuses(NO_HOUSES, "melt(0, 1) without houses", x -> x.melt(0, 1), BAD);
    }

    static void promise17ItHasNotSoMany() {
        answers(land("h095"), "5 of 5", x -> x.melt(0, 5), 0);
        refuses(land("h095"), "6 of 5", x -> x.melt(0, 6), STATE);
        refuses(land("h090"), "1 of none", x -> x.melt(0, 1), STATE);
        refuses(land("h090"), "BAD ahead of STATE", x -> x.melt(0, 10), BAD);
        answers(THIRTY, "9 of 30", x -> x.melt(0, 9), 21);
    }

    static void promise17DebtsStay() {
        SpoonCensus x = told(after(land("h009 h000"), y -> y.lend(0, 1, 6), y -> y.melt(1, 6)));
        dueFigure(x, 1, 3, 0);
        dueFigure(x, 1, 4, 6);
        dueFigure(x, 0, 5, 6);
    }

    // ---- born

    static void promise18NineMouths() {
        answers(land("h080"), "the ninth", x -> x.born(0), 9);
        refuses(land("h090"), "a tenth", x -> x.born(0), FULL);
        refuses(after(land("h080"), x -> x.born(0)), "a tenth behind the ninth", x -> x.born(0), FULL);
        answers(land("h000"), "the first", x -> x.born(0), 1);
    }

    static void promise18ThirtySpoons() {
        Story few = x -> {
            x.gone(0);
            x.gone(0);
        };
        Story twentyNine = after(TWENTY_NINE, few);
        answers(twentyNine, "with the 30th SPOON", x -> x.born(0), 8);
        refuses(after(THIRTY, few), "with a 31st SPOON", x -> x.born(0), FULL);
        refuses(after(twentyNine, x -> x.born(0)), "with a 31st behind the 30th", x -> x.born(0), FULL);
        dueFigure(told(after(twentyNine, x -> x.born(0))), 0, 3, 30);
        refuses(THIRTY, "9 MOUTHS and 30 SPOONS", x -> x.born(0), FULL);
        refuses(TWENTY_NINE, "9 MOUTHS and 29 SPOONS", x -> x.born(0), FULL);
    }

    static void promise18HousesThatAreNone() {
        answers(land("h000 h000 h000 h001"), "born(3)", x -> x.born(3), 1);
        for (int h : NO_HOUSE_OF_FOUR) {
            refuses(FOUR, "born(" + h + "), BAD ahead of FULL", x -> x.born(h), BAD);
        }
        refuses(NO_HOUSES, "born(0) without houses", x -> x.born(0), BAD);
    }

    // ---- gone

    static void promise19NoMouths() {
        answers(land("h010"), "the last", x -> x.gone(0), 0);
        refuses(land("h009"), "one of none", x -> x.gone(0), STATE);
        refuses(after(land("h010"), x -> x.gone(0)), "one behind the last", x -> x.gone(0), STATE);
        answers(land("h090"), "one of nine", x -> x.gone(0), 8);
    }

    static void promise19ItsSpoonStays() {
        dueFigure(told(after(land("h011"), x -> x.gone(0))), 0, 3, 1);
        dueFigure(told(after(land("h010"), x -> x.gone(0))), 0, 3, 0);
    }

    static void promise19HousesThatAreNone() {
        answers(FOUR, "gone(3)", x -> x.gone(3), 8);
        for (int h : NO_HOUSE_OF_FOUR) {
            refuses(FOUR, "gone(" + h + ")", x -> x.gone(h), BAD);
        }
        refuses(NO_HOUSES, "gone(0) without houses", x -> x.gone(0), BAD);
    }

    // ---- night

    static void promise20ThirtyNights() {
        answers(after(FOUR, nights(29)), "NIGHT 29", x -> x.night(), 36);
        answers(after(FOUR, nights(30)), "NIGHTS then", x -> x.count(3), 30);
        refuses(after(FOUR, nights(30)), "NIGHT 30", x -> x.night(), FULL);
        refuses(after(FOUR, nights(31)), "NIGHT 30 again", x -> x.night(), FULL);
        answers(after(FOUR, nights(30), x -> x.undo()), "NIGHT 29 once more", x -> x.night(), 36);
    }

    static void promise20NoHouses() {
        due("of a new object", new SpoonCensus().night(), STATE);
        refuses(NO_HOUSES, "without houses", x -> x.night(), STATE);
        refuses(after(FOUR, nights(30), NO_HOUSES), "STATE behind 30 nights of another land", x -> x.night(), STATE);
        answers(land("h000"), "a house that has nothing", x -> x.night(), 0);
        answers(land("g000"), "a ghost that has nothing", x -> x.night(), 1);
    }

    static void promise20AllSacksTogether() {
        answers(land("h099 h199 h299"), "of three provinces", x -> x.night(), 27);
        answers(land("g099 ".repeat(8)), "of eight ghosts", x -> x.night(), 80);
        answers(after(land("g099 ".repeat(8)), x -> x.law(1)), "of eight ghosts by LAW 1", x -> x.night(), 72);
        SpoonCensus x = told(after(land("h011 h122 h233"), y -> y.night()));
        for (int p = 0; p < 3; p++) {
            due("was(0, " + p + ")", x.was(0, p), p + 1);
        }
    }

    // ---- undo

    static void promise21NothingIsKeptInMind() {
        due("of a new object", new SpoonCensus().undo(), STATE);
        refuses(NO_HOUSES, "without houses", x -> x.undo(), STATE);
        refuses(FOUR, "of a new land", x -> x.undo(), STATE);
        refuses(after(FOUR, x -> x.gone(0), x -> x.undo()), "it is no deed itself", x -> x.undo(), STATE);
        refuses(after(FOUR, x -> x.keep(0), x -> x.gone(0), x -> x.on(0)), "behind on()", x -> x.undo(), STATE);
        refuses(after(FOUR, x -> x.gone(0), land("h011")), "behind land()", x -> x.undo(), STATE);
    }

    static void promise21WhatIsRefusedIsNoDeed() {
        Story refused = x -> {
            x.lend(0, 1, 10);
            x.lend(0, 0, 1);
            x.lend(0, 5, 1);
            x.back(0, 1, 1);
            x.melt(0, 10);
            x.born(0);
            x.gone(4);
        };
        refuses(after(FOUR, refused), "undo()", x -> x.undo(), STATE);
    }

    static void promise21EachSort() {
        Story lent = after(FOUR, x -> x.lend(0, 1, 9));
        undoes(FOUR, x -> x.lend(0, 1, 9), 0);
        undoes(lent, x -> x.back(0, 1, 9), 1);
        undoes(FOUR, x -> x.melt(3, 9), 2);
        undoes(land("h089"), x -> x.born(0), 3);
        undoes(land("h010"), x -> x.gone(0), 4);
        undoes(FOUR, x -> x.night(), 5);
        undoes(after(FOUR, nights(29)), x -> x.night(), 5);
        undoes(TWENTY_NINE, x -> x.lend(3, 0, 1), 0);
    }

    private static void undoes(Story story, Story deed, int sort) {
        SpoonCensus x = told(after(story, deed));
        due("undo()", x.undo(), sort);
        same("a deed of sort " + sort + " undone", x, told(story));
    }

    private static final Story TO_AND_FRO = x -> {
        x.lend(0, 1, 1);
        x.back(0, 1, 1);
    };
    private static final Story SIXTY = times(30, TO_AND_FRO);

    static void promise21SixtyDeeds() {
        answers(after(land("h019 h000"), SIXTY), "kept in mind", x -> x.count(8), 60);
        // the 31st night is refused, and all behind it
        answers(after(land("h019"), x -> x.melt(0, 9), nights(59)), "what is refused is not kept in mind", x -> x.count(8), 31);
        SpoonCensus x = told(after(land("h019 h000"), y -> y.melt(0, 2), times(29, TO_AND_FRO), y -> y.gone(0)));
        due("the last", x.undo(), 4);
        for (int i = 0; i < 58; i++) {
            due("deed " + (58 - i), x.undo(), i % 2 == 0 ? 1 : 0);
        }
        due("the first", x.undo(), 2);
        dueFigure(x, 0, 3, 9);
        due("behind the first", x.undo(), STATE);
    }

    static void promise21ASixtyFirstDeedMakesTheFirstBeForgotten() {
        Story sixtyOne = after(land("h019 h000"), x -> x.melt(0, 2), SIXTY);
        answers(sixtyOne, "kept in mind", x -> x.count(8), 60);
        SpoonCensus x = told(sixtyOne);
        for (int i = 0; i < 60; i++) {
            due("deed " + (60 - i), x.undo(), i % 2 == 0 ? 1 : 0);
        }
        due("the first", x.undo(), STATE);
        dueFigure(x, 0, 3, 7);
        Story sixtyTwo = after(land("h019 h000"), y -> y.gone(0), y -> y.melt(0, 2), SIXTY);
        SpoonCensus z = told(after(sixtyTwo, times(60, y -> y.undo())));
        due("the first two", z.undo(), STATE);
        dueFigure(z, 0, 2, 0);
        dueFigure(z, 0, 3, 7);
    }

    static void promise21TheLastFirstHoweverManyWereForgotten() {
        SpoonCensus x = told(land("h055 h155"));
        Deque<Integer> mind = new ArrayDeque<>();
        for (int i = 0; i < 190; i++) {
            if (i % 7 == 6) {
                due("undo() at " + i, x.undo(), mind.removeLast());
            } else {
                int sort = i % 3 == 0 ? 4 : i % 3 == 1 ? 3 : 0;
                long done = sort == 4 ? x.gone(0) : sort == 3 ? x.born(0) : x.lend(0, 1, 1);
                if (done >= 0) {
                    mind.addLast(sort);
                }
            }
            if (mind.size() > 60) {
                mind.removeFirst();
            }
            due("kept in mind at " + i, x.count(8), mind.size());
        }
        while (!mind.isEmpty()) {
            due("undo()", x.undo(), mind.removeLast());
        }
        due("undo() of none", x.undo(), STATE);
    }

    static void promise21ANightGivesItsPlaceInTheLogBack() {
        SpoonCensus x = told(after(land("h055"), nights(30)));
        due("NIGHT 30", x.night(), FULL);
        due("undo()", x.undo(), 5);
        due("was(29, 0)", x.was(29, 0), FINDING);
        due("was(28, 0)", x.was(28, 0), 5);
        x.melt(0, 3);
        due("NIGHT 29 anew", x.night(), 2);
        due("was(29, 0) then", x.was(29, 0), 2);
    }

    // ---- keep

    static void promise22PlacesAre0To2() {
        for (int k = 0; k < 3; k++) {
            int place = k;
            answers(after(FOUR, nights(2)), "keep(" + k + ")", x -> x.keep(place), 2);
        }
        for (int k : NO_PLACE) {
            refuses(FOUR, "keep(" + k + ")", x -> x.keep(k), BAD);
        }
    }

    static void promise22NoHouses() {
        due("of a new object", new SpoonCensus().keep(0), STATE);
        refuses(NO_HOUSES, "keep(0) without houses", x -> x.keep(0), STATE);
        for (int k : NO_PLACE) {
            refuses(NO_HOUSES, "BAD ahead of STATE, keep(" + k + ")", x -> x.keep(k), BAD);
        }
    }

    static void promise22FirstAndLastNight() {
        answers(FOUR, "on NIGHT 0", x -> x.keep(1), 0);
        answers(after(FOUR, nights(30)), "on NIGHT 30", x -> x.keep(1), 30);
        SpoonCensus x = told(after(FOUR, nights(30), y -> y.keep(1), land("h011"), FOUR));
        due("gone with a new land", x.on(1), FINDING);
        x = told(after(FOUR, nights(30), y -> y.keep(1), y -> y.undo()));
        due("on(1)", x.on(1), 30);
        due("was(29, 0)", x.was(29, 0), 36);
        due("NIGHT 30", x.night(), FULL);
    }

    static void promise22DeedsAreNotKept() {
        SpoonCensus x = told(after(FOUR, y -> y.gone(0), y -> y.keep(0)));
        due("deeds go on", x.count(8), 1);
        due("on(0)", x.on(0), 0);
        due("no deeds then", x.count(8), 0);
    }

    static void promise22KeptOverWhatWasKept() {
        SpoonCensus x = told(after(FOUR, y -> y.keep(0), nights(3), y -> y.keep(0), y -> y.night()));
        due("on(0)", x.on(0), 3);
    }

    // ---- on

    static void promise23PlacesAre0To2() {
        for (int k = 0; k < 3; k++) {
            int place = k;
            answers(after(FOUR, nights(2), x -> x.keep(place)), "on(" + k + ")", x -> x.on(place), 2);
        }
        for (int k : NO_PLACE) {
            refuses(after(FOUR, x -> x.keep(0)), "on(" + k + ")", x -> x.on(k), BAD);
            refuses(FOUR, "BAD ahead of NOTHING, on(" + k + ")", x -> x.on(k), BAD);
        }
    }

    static void promise23NothingWasKept() {
        for (int k = 0; k < 3; k++) {
            int place = k;
            finds(FOUR, "on(" + k + ")", x -> x.on(place), NOTHING);
            finds(after(FOUR, x -> x.gone(0), x -> x.keep((place + 1) % 3)), "on(" + k + ") beside one",
                x -> x.on(place), NOTHING);
            finds(after(FOUR, x -> x.keep(place), FOUR), "on(" + k + ") of an older land", x -> x.on(place), NOTHING);
        }
        finds(NO_HOUSES, "on(0) without houses", x -> x.on(0), NOTHING);
    }

    static void promise23AllIsAsItWasKept() {
        Story kept = after(FOUR, x -> x.lend(0, 1, 4), x -> x.law(2), x -> x.tax(99, 98), nights(2), x -> x.keep(2));
        SpoonCensus x = told(after(kept, y -> y.law(0), y -> y.tax(0, 0), y -> y.back(0, 1, 4), y -> y.melt(2, 9),
            y -> y.gone(3), nights(9), y -> y.on(2)));
        SpoonCensus twin = told(after(kept, y -> y.on(2)));
        same("gone on from", x, twin);
    }

    static void promise23DebtsOfTheLastHouses() {
        Story kept = after(land("h099 ".repeat(8)), x -> x.lend(7, 6, 4), x -> x.lend(6, 7, 5), x -> x.lend(0, 7, 1),
            x -> x.keep(0));
        SpoonCensus x = told(after(kept, y -> y.back(7, 6, 4), y -> y.back(6, 7, 5), y -> y.back(0, 7, 1), y -> y.on(0)));
        same("gone on from", x, told(after(kept, y -> y.on(0))));
        due("back(7, 6, 1)", told(after(kept, y -> y.on(0))).back(7, 6, 1), 3);
    }

    static void promise23TheLogOfNightsThatWereUndone() {
        Story kept = after(FOUR, nights(30), x -> x.keep(1));
        SpoonCensus x = told(after(kept, times(30, y -> y.undo()), y -> y.melt(0, 9), nights(30), y -> y.on(1)));
        due("was(0, 0)", x.was(0, 0), 36);
        due("was(29, 0)", x.was(29, 0), 36);
        same("gone on from", x, told(after(kept, y -> y.on(1))));
    }

    static void promise23WhatIsKeptStays() {
        Story kept = after(FOUR, x -> x.lend(0, 1, 4), x -> x.night(), x -> x.keep(0));
        SpoonCensus x = told(kept);
        for (int i = 0; i < 3; i++) {
            due("on(0)", x.on(0), 1);
            dueFigure(x, 0, 3, 5);
            due("back()", x.back(0, 1, 4), 0);
            due("night()", x.night(), 36);
        }
    }

    static void promise23RowsAndTextsAreNotKept() {
        SpoonCensus x = told(after(FOUR, row(1, 4), y -> y.keep(0), row(1, 5, 6), y -> y.row(2, 0), y -> y.text(1, 3)));
        x.on(0);
        due("rows", x.count(6), 2);
        due("at(1, 1)", x.at(1, 1), 1);
        due("at(1, 1), asked()", x.asked(), 6);
        due("texts", x.count(7), 3);
    }
}
