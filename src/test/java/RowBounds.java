import java.util.Arrays;

/** Boundaries of rows: promises 2 to 7. */
final class RowBounds extends Boundary {
    private static final Story NO_ROW = x -> { };
    private static final Story NO_PLACES = row(2);
    private static final Story FULL_ROW = row(2, sixty());
    private static final int[] NO_ROWS = {-1, 6, LEAST, GREATEST};

    /** 101 .. 160 */
    private static int[] sixty() {
        int[] values = new int[60];
        for (int i = 0; i < 60; i++) {
            values[i] = 101 + i;
        }
        return values;
    }

    private static int[] filled(int n, int v) {
        int[] values = new int[n];
        Arrays.fill(values, v);
        return values;
    }

    // ---- row

    static void promise02RowsAre0To5() {
        for (int r = 0; r <= 5; r++) {
            int row = r;
            answers(NO_ROW, "row(" + r + ", 1)", x -> x.row(row, 1), 1);
        }
        for (int r : NO_ROWS) {
            refuses(FULL_ROW, "row(" + r + ", 1)", x -> x.row(r, 1), BAD);
        }
    }

    static void promise02SixtyPlacesAreTheMost() {
        answers(NO_ROW, "row(2, 60)", x -> x.row(2, 60), 60);
        for (int n : new int[] {61, 62, GREATEST}) {
            refuses(NO_ROW, "row(2, " + n + ") of a missing row", x -> x.row(2, n), BAD);
            refuses(FULL_ROW, "row(2, " + n + ") of a full row", x -> x.row(2, n), BAD);
        }
    }

    static void promise02NoPlacesAreTheFewest() {
        answers(NO_ROW, "row(2, 0)", x -> x.row(2, 0), 0);
        for (int n : new int[] {-1, -2, LEAST}) {
            finds(NO_ROW, "row(2, " + n + ") of a missing row", x -> x.row(2, n), SIZE);
            finds(FULL_ROW, "row(2, " + n + ") of a full row", x -> x.row(2, n), SIZE);
        }
    }

    static void promise02BadIsAheadOfSize() {
        for (int r : NO_ROWS) {
            refuses(FULL_ROW, "row(" + r + ", -1)", x -> x.row(r, -1), BAD);
        }
    }

    static void promise02ARowWithNoPlacesIsThere() {
        answers(NO_ROW, "rows that are there before", x -> x.count(6), 0);
        answers(NO_PLACES, "rows that are there", x -> x.count(6), 1);
        finds(NO_PLACES, "its place 0", x -> x.at(2, 0), BEYOND);
    }

    static void promise02EachPlaceOfANewRowIs0() {
        SpoonCensus x = told(after(FULL_ROW, y -> y.row(2, 3), y -> y.row(2, 60)));
        dueRow(x, 2, new int[60]);
        x = told(after(FULL_ROW, y -> y.tear(2), y -> y.row(2, 60)));
        dueRow(x, 2, new int[60]);
    }

    static void promise02AllSixRowsCanBeFull() {
        SpoonCensus x = new SpoonCensus();
        for (int r = 0; r <= 5; r++) {
            x.row(r, 60);
            x.lay(r, 0, 10 + r);
            x.lay(r, 59, 20 + r);
        }
        for (int r = 0; r <= 5; r++) {
            due("at(" + r + ", 0)", x.at(r, 0) == 1 ? x.asked() : LEAST, 10 + r);
            due("at(" + r + ", 59)", x.at(r, 59) == 1 ? x.asked() : LEAST, 20 + r);
        }
        due("rows that are there", x.count(6), 6);
    }

    // ---- lay

    static void promise03FirstAndLastPlace() {
        asks(FULL_ROW, "lay(2, 0, 5)", x -> x.lay(2, 0, 5), 1, 101);
        asks(FULL_ROW, "lay(2, 59, 5)", x -> x.lay(2, 59, 5), 1, 160);
        asks(row(2, 8), "lay(2, 0, 5) of one place", x -> x.lay(2, 0, 5), 1, 8);
        for (int i : new int[] {-1, 60, 61, LEAST, GREATEST}) {
            finds(FULL_ROW, "lay(2, " + i + ", 5)", x -> x.lay(2, i, 5), BEYOND);
        }
        finds(row(2, 8), "lay(2, 1, 5) of one place", x -> x.lay(2, 1, 5), BEYOND);
    }

    static void promise03ARowWithNoPlaces() {
        for (int i : new int[] {-1, 0, 1}) {
            finds(NO_PLACES, "lay(2, " + i + ", 5)", x -> x.lay(2, i, 5), BEYOND);
        }
    }

    static void promise03OnlyThatPlaceChanges() {
        SpoonCensus x = told(after(row(2, 7, 8, 9), y -> y.lay(2, 1, -3)));
        dueRow(x, 2, 7, -3, 9);
    }

    static void promise03AnyIntIsLetIn() {
        Story all = after(row(2, 1), x -> x.lay(2, 0, GREATEST));
        asks(all, "lay() of the least int", x -> x.lay(2, 0, LEAST), 1, GREATEST);
        asks(after(all, x -> x.lay(2, 0, LEAST)), "lay() behind it", x -> x.lay(2, 0, 0), 1, LEAST);
    }

    static void promise03AMissingRow() {
        finds(NO_ROW, "lay(2, 0, 5)", x -> x.lay(2, 0, 5), NOTHING);
        finds(NO_ROW, "NOTHING ahead of BEYOND", x -> x.lay(2, -1, 5), NOTHING);
        finds(after(FULL_ROW, x -> x.tear(2)), "a row that was torn", x -> x.lay(2, 60, 5), NOTHING);
    }

    static void promise03NoSuchRow() {
        for (int r : NO_ROWS) {
            refuses(FULL_ROW, "lay(" + r + ", 0, 5)", x -> x.lay(r, 0, 5), BAD);
            refuses(FULL_ROW, "BAD ahead of BEYOND, lay(" + r + ", -1, 5)", x -> x.lay(r, -1, 5), BAD);
        }
    }

    // ---- at

    static void promise04FirstAndLastPlace() {
        asks(FULL_ROW, "at(2, 0)", x -> x.at(2, 0), 1, 101);
        asks(FULL_ROW, "at(2, 59)", x -> x.at(2, 59), 1, 160);
        for (int i : new int[] {-1, 60, 61, LEAST, GREATEST}) {
            finds(FULL_ROW, "at(2, " + i + ")", x -> x.at(2, i), BEYOND);
        }
        asks(row(2, 8), "at(2, 0) of one place", x -> x.at(2, 0), 1, 8);
        finds(row(2, 8), "at(2, 1) of one place", x -> x.at(2, 1), BEYOND);
    }

    static void promise04ARowWithNoPlaces() {
        for (int i : new int[] {-1, 0, 1}) {
            finds(NO_PLACES, "at(2, " + i + ")", x -> x.at(2, i), BEYOND);
        }
    }

    static void promise04AMissingRow() {
        finds(NO_ROW, "at(2, 0)", x -> x.at(2, 0), NOTHING);
        finds(NO_ROW, "NOTHING ahead of BEYOND", x -> x.at(2, 60), NOTHING);
        finds(FULL_ROW, "a row beside one that is there", x -> x.at(3, 0), NOTHING);
    }

    static void promise04NoSuchRow() {
        for (int r : NO_ROWS) {
            refuses(FULL_ROW, "at(" + r + ", 0)", x -> x.at(r, 0), BAD);
            refuses(FULL_ROW, "BAD ahead of BEYOND, at(" + r + ", 60)", x -> x.at(r, 60), BAD);
        }
    }

    static void promise04TheGreatestAndTheLeastInt() {
        asks(row(2, GREATEST, LEAST), "the greatest", x -> x.at(2, 0), 1, GREATEST);
        asks(row(2, GREATEST, LEAST), "the least", x -> x.at(2, 1), 1, LEAST);
    }

    // ---- tear

    static void promise05RowsAre0To5() {
        for (int r = 0; r <= 5; r++) {
            int row = r;
            answers(row(row, 4), "tear(" + r + ")", x -> x.tear(row), 1);
        }
        for (int r : NO_ROWS) {
            refuses(FULL_ROW, "tear(" + r + ")", x -> x.tear(r), BAD);
        }
    }

    static void promise05AMissingRow() {
        finds(NO_ROW, "tear(2) of none", x -> x.tear(2), NOTHING);
        finds(after(FULL_ROW, x -> x.tear(2)), "tear(2) again", x -> x.tear(2), NOTHING);
        finds(FULL_ROW, "tear(1) beside a row", x -> x.tear(1), NOTHING);
    }

    static void promise05ARowWithNoPlacesAndAFullOne() {
        answers(NO_PLACES, "tear(2) of no places", x -> x.tear(2), 1);
        answers(FULL_ROW, "tear(2) of 60 places", x -> x.tear(2), 1);
        finds(after(NO_PLACES, x -> x.tear(2)), "it is missing", x -> x.at(2, 0), NOTHING);
        answers(after(FULL_ROW, x -> x.tear(2)), "rows that are there", x -> x.count(6), 0);
    }

    static void promise05OnlyThatRow() {
        SpoonCensus x = told(after(row(1, 5), row(2, 6), row(3, 7), y -> y.tear(2)));
        dueRow(x, 1, 5);
        dueRow(x, 3, 7);
    }

    // ---- copy

    private static final Story TWO_ROWS = after(row(0, 1, 2, 3, 4, 5), row(1, 7, 8, 9));

    static void promise06AsMuchAsThereIs() {
        SpoonCensus x = told(TWO_ROWS);
        due("copy(0, 2, 1, 0, 3)", x.copy(0, 2, 1, 0, 3), 1);
        dueRow(x, 0, 1, 2, 3, 4, 5);
        dueRow(x, 1, 3, 4, 5);
        due("copy(1, 2, 0, 4, 1)", x.copy(1, 2, 0, 4, 1), 1);
        due("copy(0, 0, 1, 2, 1)", x.copy(0, 0, 1, 2, 1), 1);
        dueRow(x, 0, 1, 2, 3, 4, 5);
        dueRow(x, 1, 3, 4, 1);
    }

    static void promise06RowsAre0To5() {
        for (int r = 0; r <= 5; r++) {
            for (int to = 0; to <= 5; to++) {
                SpoonCensus x = told(after(row(to, 6, 7), row(r, 8, 9)));
                due("copy(" + r + ", 1, " + to + ", 0, 1)", x.copy(r, 1, to, 0, 1), 1);
                dueRow(x, to, 9, r == to ? 9 : 7);
            }
        }
    }

    static void promise06NotSoManyThere() {
        finds(TWO_ROWS, "from one place too far on", x -> x.copy(0, 3, 1, 0, 3), BEYOND);
        finds(TWO_ROWS, "to one place too far on", x -> x.copy(0, 0, 1, 1, 3), BEYOND);
        finds(TWO_ROWS, "one too many", x -> x.copy(0, 0, 1, 0, 4), BEYOND);
        finds(TWO_ROWS, "more than the first has", x -> x.copy(1, 0, 0, 0, 4), BEYOND);
    }

    static void promise06SixtyPlaces() {
        Story both = after(FULL_ROW, x -> x.row(3, 60));
        SpoonCensus x = told(both);
        due("copy(2, 0, 3, 0, 60)", x.copy(2, 0, 3, 0, 60), 1);
        dueRow(x, 3, sixty());
        finds(both, "61 places", y -> y.copy(2, 0, 3, 0, 61), BEYOND);
        onlyAnswers(both, "the last place to its own", y -> y.copy(2, 59, 2, 59, 1), 1);
        onlyAnswers(both, "all to their own", y -> y.copy(2, 0, 2, 0, 60), 1);
    }

    static void promise06AsIfTakenAhead() {
        SpoonCensus x = told(row(0, 1, 2, 3, 4, 5));
        due("one up", x.copy(0, 0, 0, 1, 4), 1);
        dueRow(x, 0, 1, 1, 2, 3, 4);
        x = told(row(0, 1, 2, 3, 4, 5));
        due("one down", x.copy(0, 1, 0, 0, 4), 1);
        dueRow(x, 0, 2, 3, 4, 5, 5);
    }

    static void promise06None() {
        onlyAnswers(TWO_ROWS, "from the first place", x -> x.copy(0, 0, 1, 0, 0), 1);
        onlyAnswers(TWO_ROWS, "behind the last places", x -> x.copy(0, 5, 1, 3, 0), 1);
        finds(TWO_ROWS, "i above its size", x -> x.copy(0, 6, 1, 3, 0), BEYOND);
        finds(TWO_ROWS, "j above its size", x -> x.copy(0, 5, 1, 4, 0), BEYOND);
        finds(TWO_ROWS, "i below 0", x -> x.copy(0, -1, 1, 3, 0), BEYOND);
        finds(TWO_ROWS, "j below 0", x -> x.copy(0, 5, 1, -1, 0), BEYOND);
        Story empty = after(row(0), row(1));
        onlyAnswers(empty, "of no places", x -> x.copy(0, 0, 1, 0, 0), 1);
        finds(empty, "i of no places", x -> x.copy(0, 1, 1, 0, 0), BEYOND);
        finds(empty, "j of no places", x -> x.copy(0, 0, 1, 1, 0), BEYOND);
        finds(empty, "one of no places", x -> x.copy(0, 0, 1, 0, 1), BEYOND);
    }

    static void promise06NumbersThatWrapAround() {
        finds(TWO_ROWS, "i the greatest", x -> x.copy(0, GREATEST, 1, 0, 1), BEYOND);
        finds(TWO_ROWS, "j the greatest", x -> x.copy(0, 0, 1, GREATEST, 1), BEYOND);
        finds(TWO_ROWS, "i the least", x -> x.copy(0, LEAST, 1, 0, 1), BEYOND);
        finds(TWO_ROWS, "j the least", x -> x.copy(0, 0, 1, LEAST, 1), BEYOND);
        finds(TWO_ROWS, "n the greatest", x -> x.copy(0, 0, 1, 0, GREATEST), BEYOND);
        finds(TWO_ROWS, "i and n together wrap around", x -> x.copy(0, 1, 1, 0, GREATEST), BEYOND);
        finds(TWO_ROWS, "j and n together wrap around", x -> x.copy(0, 0, 1, 1, GREATEST), BEYOND);
        finds(TWO_ROWS, "all the greatest", x -> x.copy(0, GREATEST, 1, GREATEST, GREATEST), BEYOND);
        finds(TWO_ROWS, "n the least", x -> x.copy(0, 0, 1, 0, LEAST), SIZE);
    }

    static void promise06FewerThanNone() {
        finds(TWO_ROWS, "n -1", x -> x.copy(0, 0, 1, 0, -1), SIZE);
        finds(TWO_ROWS, "n -1 where it would fit", x -> x.copy(0, 5, 1, 3, -1), SIZE);
    }

    static void promise06AMissingRow() {
        finds(row(0, 1), "to a missing one", x -> x.copy(0, 0, 1, 0, 1), NOTHING);
        finds(row(1, 1), "from a missing one", x -> x.copy(0, 0, 1, 0, 1), NOTHING);
        finds(NO_ROW, "both missing", x -> x.copy(0, 0, 0, 0, 0), NOTHING);
    }

    static void promise06NoSuchRow() {
        for (int r : NO_ROWS) {
            refuses(TWO_ROWS, "copy(" + r + ", 0, 1, 0, 1)", x -> x.copy(r, 0, 1, 0, 1), BAD);
            refuses(TWO_ROWS, "copy(0, 0, " + r + ", 0, 1)", x -> x.copy(0, 0, r, 0, 1), BAD);
        }
    }

    static void promise06InThisOrder() {
        refuses(TWO_ROWS, "BAD ahead of SIZE", x -> x.copy(6, 0, 1, 0, -1), BAD);
        refuses(TWO_ROWS, "BAD of the other ahead of SIZE", x -> x.copy(0, 0, 6, 0, -1), BAD);
        refuses(TWO_ROWS, "BAD ahead of NOTHING", x -> x.copy(2, 0, 6, 0, 1), BAD);
        refuses(TWO_ROWS, "BAD of the first ahead of NOTHING", x -> x.copy(-1, 0, 2, 0, 1), BAD);
        refuses(TWO_ROWS, "BAD ahead of BEYOND", x -> x.copy(6, -1, 1, 9, 1), BAD);
        finds(TWO_ROWS, "SIZE ahead of NOTHING", x -> x.copy(2, 0, 1, 0, -1), SIZE);
        finds(TWO_ROWS, "SIZE ahead of NOTHING of the other", x -> x.copy(0, 0, 2, 0, -1), SIZE);
        finds(TWO_ROWS, "SIZE ahead of BEYOND", x -> x.copy(0, 6, 1, -1, -1), SIZE);
        finds(TWO_ROWS, "NOTHING ahead of BEYOND", x -> x.copy(2, -1, 1, 0, 1), NOTHING);
        finds(TWO_ROWS, "NOTHING of the other ahead of BEYOND", x -> x.copy(0, 9, 2, 0, 1), NOTHING);
    }

    // ---- mean

    static void promise07CutTowards0() {
        asks(row(2, 1, 1), "of 1 1", x -> x.mean(2), 1, 1);
        asks(row(2, 1, 2), "of 1 2", x -> x.mean(2), 1, 1);
        asks(row(2, -1, -2), "of -1 -2", x -> x.mean(2), 1, -1);
        asks(row(2, 0, 1), "of 0 1", x -> x.mean(2), 1, 0);
        asks(row(2, 0, -1), "of 0 -1", x -> x.mean(2), 1, 0);
        asks(row(2, 5, -5), "of 5 -5", x -> x.mean(2), 1, 0);
    }

    static void promise07OfOnePlaceAndOfSixty() {
        asks(row(2, -7), "of one", x -> x.mean(2), 1, -7);
        asks(FULL_ROW, "of 101 to 160", x -> x.mean(2), 1, 130);
    }

    static void promise07RowsAre0To5() {
        for (int r = 0; r <= 5; r++) {
            int row = r;
            asks(row(row, 3, 7), "mean(" + r + ")", x -> x.mean(row), 1, 5);
        }
    }

    static void promise07SumsBeyondAnInt() {
        asks(row(2, GREATEST, GREATEST), "of the greatest two", x -> x.mean(2), 1, GREATEST);
        asks(row(2, LEAST, LEAST), "of the least two", x -> x.mean(2), 1, LEAST);
        asks(row(2, GREATEST, LEAST), "of the greatest and the least", x -> x.mean(2), 1, 0);
        asks(row(2, filled(60, GREATEST)), "of 60 of the greatest", x -> x.mean(2), 1, GREATEST);
        asks(row(2, filled(60, LEAST)), "of 60 of the least", x -> x.mean(2), 1, LEAST);
    }

    static void promise07SharedAmongNone() {
        finds(NO_PLACES, "of no places", x -> x.mean(2), NOUGHT);
    }

    static void promise07AMissingRow() {
        finds(NO_ROW, "mean(2)", x -> x.mean(2), NOTHING);
        finds(after(NO_PLACES, x -> x.tear(2)), "of no places, torn", x -> x.mean(2), NOTHING);
    }

    static void promise07NoSuchRow() {
        for (int r : NO_ROWS) {
            refuses(FULL_ROW, "mean(" + r + ")", x -> x.mean(r), BAD);
        }
    }
}
