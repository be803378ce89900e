/** Boundaries of taxes: promises 35 to 38. */
final class TaxBounds extends Boundary {
    private static final Story NO_HOUSES = land("");
    private static final int[] NOT_0_TO_99 = {-1, 100, 101, LEAST, GREATEST};

    private static Story taxed(String signs, int tax, int fine) {
        return after(land(signs), x -> x.tax(tax, fine));
    }

    // ---- tax

    static void promise35From0To99Each() {
        answers(land("h010"), "tax(0, 0)", x -> x.tax(0, 0), 1);
        answers(land("h010"), "tax(99, 99)", x -> x.tax(99, 99), 1);
        answers(NO_HOUSES, "tax(99, 99) without houses", x -> x.tax(99, 99), 1);
        asks(taxed("h010", 0, 99), "gains(0) by TAX 0", x -> x.gains(0), 1, 0);
        asks(taxed("h010", 99, 0), "gains(0) by TAX 99", x -> x.gains(0), 1, 99);
        asks(taxed("h010", 99, 99), "look() by FINE 99", x -> x.look(), 1, 1);
        refuses(taxed("h010", 99, 0), "look() by FINE 0", x -> x.look(), NONE);
    }

    static void promise35NumbersThatAreNone() {
        for (int v : NOT_0_TO_99) {
            refuses(taxed("h010", 7, 8), "tax(" + v + ", 5)", x -> x.tax(v, 5), BAD);
            refuses(taxed("h010", 7, 8), "tax(5, " + v + ")", x -> x.tax(5, v), BAD);
            refuses(taxed("h010", 7, 8), "tax(" + v + ", " + v + ")", x -> x.tax(v, v), BAD);
            refuses(NO_HOUSES, "tax(0, " + v + ") without houses", x -> x.tax(0, v), BAD);
        }
    }

    static void promise35ItIsNoDeed() {
        refuses(taxed("h010", 7, 8), "undo()", x -> x.undo(), STATE);
        asks(after(land("h010"), x -> x.gone(0), x -> x.born(0), x -> x.tax(9, 9), x -> x.undo(), x -> x.undo()),
            "gains(0) behind undo()", x -> x.gains(0), 1, 9);
    }

    // ---- gains

    static void promise36HousesThatAreNone() {
        asks(land(EIGHT), "gains(0)", x -> x.gains(0), 1, 0);
        asks(land(EIGHT), "gains(7)", x -> x.gains(7), 1, 1);
        for (int h : new int[] {-1, 8, LEAST, GREATEST}) {
            refuses(land(EIGHT), "gains(" + h + ")", x -> x.gains(h), BAD);
        }
        refuses(land("h010"), "gains(1) of one house", x -> x.gains(1), BAD);
        refuses(NO_HOUSES, "gains(0) without houses", x -> x.gains(0), BAD);
    }

    static void promise36BelowAndAbove0() {
        asks(taxed("h090", 99, 0), "the most", x -> x.gains(0), 1, 891);
        asks(taxed("h055", 99, 0), "no lie", x -> x.gains(0), 1, 0);
        asks(taxed("b045", 99, 0), "below 0", x -> x.gains(0), 1, -99);
        asks(taxed("h090", 0, 99), "TAX 0", x -> x.gains(0), 1, 0);
        Story thirty = after(taxed("g009 h099 h099 h099", 99, 0), x -> x.lend(1, 0, 9), x -> x.lend(2, 0, 9),
            x -> x.lend(3, 0, 3));
        asks(thirty, "the least", x -> x.gains(0), 1, -31 * 99);
        asks(after(thirty, x -> x.law(1)), "the least by LAW 1", x -> x.gains(0), 1, -30 * 99);
    }

    // ---- look

    static void promise37NothingIsGained() {
        asks(NO_HOUSES, "look() without houses", x -> x.look(), 0, 0);
        asks(taxed("h055 h144", 99, 0), "nobody lies", x -> x.look(), 0, 0);
        asks(taxed("b045 g009", 99, 0), "all gains are below 0", x -> x.look(), 0, 0);
        asks(taxed("h090 h080", 0, 0), "TAX 0", x -> x.look(), 0, 0);
    }

    static void promise37NoMoreThanTheyPay() {
        asks(taxed("h041", 2, 2), "6 gained, 6 paid", x -> x.look(), 1, 1);
        refuses(taxed("h041", 2, 1), "6 gained, 3 paid", x -> x.look(), NONE);
        asks(taxed("h041 h074", 99, 99), "both by 99", x -> x.look(), 2, 3);
        refuses(taxed("h041 h074", 99, 98), "99 gained, 98 paid", x -> x.look(), NONE);
        asks(taxed("h020 h010", 2, 3), "6 gained, 6 paid by the first", x -> x.look(), 1, 1);
        asks(taxed("h010 h020", 2, 3), "6 gained, 6 paid by the second", x -> x.look(), 1, 2);
        asks(taxed("h030 h050 h020", 7, 10), "70 gained, 70 or more paid by two", x -> x.look(), 2, 3);
        asks(taxed("h030 h040 h030", 7, 10), "70 gained, 70 paid by the first two", x -> x.look(), 2, 3);
    }

    static void promise37Never() {
        refuses(taxed("h010", 1, 0), "FINE 0", x -> x.look(), NONE);
        refuses(taxed("h090 ".repeat(8), 99, 98), "eight houses", x -> x.look(), NONE);
        refuses(land("h010"), "TAX 1, FINE 0 of a new land", x -> x.look(), NONE);
    }

    static void promise37AllEight() {
        asks(taxed("h010 ".repeat(8), 5, 5), "all eight", x -> x.look(), 8, 255);
        asks(taxed("h090 ".repeat(8), 99, 99), "all eight by 99", x -> x.look(), 8, 255);
        asks(taxed("h000 ".repeat(7) + "h010", 5, 5), "the eighth alone", x -> x.look(), 1, 128);
        asks(taxed("h010 ".repeat(8), 5, 6), "seven, the least bits", x -> x.look(), 7, 127);
    }

    static void promise37TheLeastBits() {
        asks(taxed("h010 h010", 1, 2), "either", x -> x.look(), 1, 1);
        asks(taxed("h000 h020 h020", 2, 4), "the second or the third", x -> x.look(), 1, 2);
        asks(taxed("h020 h030", 2, 5), "less is paid by the first, but enough", x -> x.look(), 1, 1);
        asks(taxed("h010 h010 h010 h030", 2, 3), "with the fourth, two", x -> x.look(), 2, 9);
        asks(taxed("h010 h010 h010 h030", 2, 4), "the fourth alone rather than the first three", x -> x.look(), 1, 8);
    }

    static void promise37GainsBelow0AreNotTakenOff() {
        asks(taxed("b019 h030", 1, 1), "3 gained, 8 lost", x -> x.look(), 1, 2);
        refuses(taxed("b019 h030", 2, 1), "6 gained, 16 lost, 3 paid", x -> x.look(), NONE);
        asks(taxed("g000 m011", 1, 1), "a ghost pays nothing", x -> x.look(), 1, 2);
    }

    // ---- fine

    static void promise38From0To8Houses() {
        answers(taxed("h010 h010", 3, 0), "fine(0)", x -> x.fine(0), NONE);
        answers(taxed("h010 h010", 3, 0), "fine(1)", x -> x.fine(1), 6);
        answers(taxed("h010 h010", 3, 0), "fine(2)", x -> x.fine(2), 3);
        answers(taxed("h010 h010", 3, 0), "fine(8) of two houses", x -> x.fine(8), 3);
        answers(taxed("h010 ".repeat(8), 12, 0), "fine(8) of eight houses", x -> x.fine(8), 12);
        answers(taxed("h010 ".repeat(8), 12, 0), "fine(7) of eight houses", x -> x.fine(7), 14);
        for (int k : new int[] {-1, 9, 10, LEAST, GREATEST}) {
            refuses(taxed("h010 h010", 3, 0), "fine(" + k + ")", x -> x.fine(k), BAD);
            refuses(NO_HOUSES, "fine(" + k + ") without houses", x -> x.fine(k), BAD);
            refuses(taxed("h010", 99, 0), "fine(" + k + "), BAD ahead of NONE", x -> x.fine(k), BAD);
        }
    }

    static void promise38FinesAre0To99() {
        answers(taxed("h010", 99, 0), "99 by one house", x -> x.fine(1), 99);
        answers(taxed("h010 h010 h010", 33, 0), "99 by one of three", x -> x.fine(1), 99);
        refuses(taxed("h010 h010 h010", 34, 0), "102 by one of three", x -> x.fine(1), NONE);
        refuses(taxed("h010 h010", 50, 0), "100 by one of two", x -> x.fine(1), NONE);
        answers(taxed("h020 h020 h011", 49, 0), "98 by one of two", x -> x.fine(1), 98);
        answers(taxed("h010", 1, 0), "1", x -> x.fine(1), 1);
    }

    static void promise38NothingIsGained() {
        for (int k = 0; k <= 8; k++) {
            int houses = k;
            onlyAnswers(NO_HOUSES, "fine(" + k + ") without houses", x -> x.fine(houses), 0);
            onlyAnswers(taxed("b045 h055", 99, 5), "fine(" + k + ") of gains below 0", x -> x.fine(houses), 0);
            onlyAnswers(taxed("h090", 0, 5), "fine(" + k + ") by TAX 0", x -> x.fine(houses), 0);
        }
    }

    static void promise38NoHouseLookedAt() {
        refuses(taxed("h010", 1, 99), "fine(0)", x -> x.fine(0), NONE);
        refuses(taxed("h090 ".repeat(8), 99, 99), "fine(0) of eight", x -> x.fine(0), NONE);
    }

    static void promise38ThoseThatServeBest() {
        Story story = taxed("h010 h040 h030 h020", 2, 50);
        int[] want = {NONE, 5, 3, 3, 2, 2, 2, 2, 2};
        for (int k = 0; k <= 8; k++) {
            int houses = k;
            onlyAnswers(story, "fine(" + k + ")", x -> x.fine(houses), want[k]);
        }
        onlyAnswers(taxed("h010 h020", 2, 0), "6 by 2 has no rest", x -> x.fine(1), 3);
        onlyAnswers(taxed("h020 h030", 2, 0), "10 by 3 has one", x -> x.fine(1), 4);
    }
}
