/** Boundaries of texts and lands: promises 8 to 11. */
final class TextBounds extends Boundary {
    private static final Story NO_TEXT = x -> { };
    private static final Story NO_PLACES = text(0, "");
    private static final String EIGHTY = "a".repeat(79) + "z";
    private static final Story FULL_TEXT = text(0, EIGHTY);
    private static final int[] NO_TEXTS = {-1, 4, LEAST, GREATEST};
    private static final String LETTERS = "hmbngs";

    // ---- text

    static void promise08TextsAre0To3() {
        for (int t = 0; t <= 3; t++) {
            int text = t;
            answers(NO_TEXT, "text(" + t + ", 1)", x -> x.text(text, 1), 1);
        }
        for (int t : NO_TEXTS) {
            refuses(FULL_TEXT, "text(" + t + ", 1)", x -> x.text(t, 1), BAD);
        }
    }

    static void promise08EightyPlacesAreTheMost() {
        answers(NO_TEXT, "text(0, 80)", x -> x.text(0, 80), 80);
        for (int n : new int[] {81, 82, GREATEST}) {
            refuses(NO_TEXT, "text(0, " + n + ") of a missing text", x -> x.text(0, n), BAD);
            refuses(FULL_TEXT, "text(0, " + n + ") of a full text", x -> x.text(0, n), BAD);
        }
    }

    static void promise08NoPlacesAreTheFewest() {
        answers(NO_TEXT, "text(0, 0)", x -> x.text(0, 0), 0);
        for (int n : new int[] {-1, -2, LEAST}) {
            finds(NO_TEXT, "text(0, " + n + ") of a missing text", x -> x.text(0, n), SIZE);
            finds(FULL_TEXT, "text(0, " + n + ") of a full text", x -> x.text(0, n), SIZE);
        }
    }

    static void promise08BadIsAheadOfSize() {
        for (int t : NO_TEXTS) {
            refuses(FULL_TEXT, "text(" + t + ", -1)", x -> x.text(t, -1), BAD);
        }
    }

    static void promise08ATextWithNoPlacesIsThere() {
        SpoonCensus x = new SpoonCensus();
        due("texts that are there before", x.count(7), 0);
        x.text(2, 0);
        due("texts that are there", x.count(7), 1);
        finds(NO_PLACES, "its place 0", y -> y.put(0, 0, 1), BEYOND);
    }

    static void promise08EachPlaceOfANewTextIsABlank() {
        SpoonCensus x = told(after(FULL_TEXT, y -> y.text(0, 3), y -> y.text(0, 80)));
        for (int i = 0; i < 80; i++) {
            due("what place " + i + " was", x.put(0, i, 1), 1032);
        }
        due("the place behind the last", x.put(0, 80, 1), FINDING);
    }

    static void promise08AllFourTextsCanBeFull() {
        SpoonCensus x = new SpoonCensus();
        for (int t = 0; t <= 3; t++) {
            x.text(t, 80);
            x.put(t, 0, 10 + t);
            x.put(t, 79, 20 + t);
        }
        for (int t = 0; t <= 3; t++) {
            due("put(" + t + ", 0, 1)", x.put(t, 0, 1), 1010 + t);
            due("put(" + t + ", 79, 1)", x.put(t, 79, 1), 1020 + t);
        }
        due("texts that are there", x.count(7), 4);
    }

    // ---- put

    static void promise09FirstAndLastPlace() {
        answers(FULL_TEXT, "put(0, 0, 5)", x -> x.put(0, 0, 5), 1097);
        answers(FULL_TEXT, "put(0, 79, 5)", x -> x.put(0, 79, 5), 1122);
        for (int i : new int[] {-1, 80, 81, LEAST, GREATEST}) {
            finds(FULL_TEXT, "put(0, " + i + ", 5)", x -> x.put(0, i, 5), BEYOND);
        }
        answers(text(0, "z"), "put(0, 0, 5) of one place", x -> x.put(0, 0, 5), 1122);
        finds(text(0, "z"), "put(0, 1, 5) of one place", x -> x.put(0, 1, 5), BEYOND);
    }

    static void promise09ATextWithNoPlaces() {
        for (int i : new int[] {-1, 0, 1}) {
            finds(NO_PLACES, "put(0, " + i + ", 5)", x -> x.put(0, i, 5), BEYOND);
        }
    }

    static void promise09CutToAByte() {
        int[] put = {127, 128, 129, 255, 256, 257, 383, 384, 1000, -1, -127, -128, -129, -256, -257, -384, -385,
            GREATEST, GREATEST - 127, GREATEST - 128, LEAST, LEAST + 127, LEAST + 128};
        int[] cut = {127, -128, -127, -1, 0, 1, 127, -128, -24, -1, -127, -128, 127, 0, -1, -128, 127,
            -1, -128, 127, 0, 127, -128};
        for (int k = 0; k < put.length; k++) {
            int v = put[k];
            answers(after(text(0, "z"), x -> x.put(0, 0, v)), "what it was behind put(0, 0, " + v + ")",
                x -> x.put(0, 0, 65), 1000 + cut[k]);
        }
    }

    static void promise09EachByteAsItIs() {
        SpoonCensus x = new SpoonCensus();
        x.text(1, 1);
        due("a blank", x.put(1, 0, -128), 1032);
        for (int v = -127; v <= 127; v++) {
            due("what it was ahead of " + v, x.put(1, 0, v), 1000 + v - 1);
        }
    }

    static void promise09AMissingText() {
        finds(NO_TEXT, "put(0, 0, 5)", x -> x.put(0, 0, 5), NOTHING);
        finds(NO_TEXT, "NOTHING ahead of BEYOND", x -> x.put(0, -1, 5), NOTHING);
        finds(FULL_TEXT, "a text beside one that is there", x -> x.put(1, 80, 5), NOTHING);
    }

    static void promise09NoSuchText() {
        for (int t : NO_TEXTS) {
            refuses(FULL_TEXT, "put(" + t + ", 0, 5)", x -> x.put(t, 0, 5), BAD);
            refuses(FULL_TEXT, "BAD ahead of BEYOND, put(" + t + ", 80, 5)", x -> x.put(t, 80, 5), BAD);
        }
    }

    // ---- fault

    private static void dueFault(String signs, int fault) {
        onlyAnswers(text(0, signs), "fault of '" + signs + "'", x -> x.fault(0), fault);
    }

    /** Of a text that is made so, but for one byte. */
    private static int faultWith(String signs, int place, int sign) {
        SpoonCensus x = new SpoonCensus();
        text(0, signs).tell(x);
        x.put(0, place, sign);
        return x.fault(0);
    }

    static void promise10ATextWithNoPlaces() {
        dueFault("", NONE);
    }

    static void promise10NothingButBlanks() {
        dueFault(" ", NONE);
        dueFault(" ".repeat(80), NONE);
    }

    static void promise10BlanksAheadBetweenBehindAsManyAsWanted() {
        dueFault("h000", NONE);
        dueFault("h000m000", NONE);
        dueFault(" h000 m000 ", NONE);
        dueFault(" ".repeat(20) + "h000" + " ".repeat(30) + "m000" + " ".repeat(22), NONE);
        dueFault(" ".repeat(76) + "h000", NONE);
        dueFault("h000" + " ".repeat(76), NONE);
        dueFault("h000" + " ".repeat(72) + "m000", NONE);
    }

    static void promise10NoBlankWithinAnItem() {
        dueFault("h 000", 1);
        dueFault("h0 00", 2);
        dueFault("h00 0", 3);
    }

    static void promise10ALetterThatIsNone() {
        for (int sign = -128; sign <= 127; sign++) {
            boolean isLetter = sign > 0 && LETTERS.indexOf(sign) >= 0;
            due("fault with letter " + sign, faultWith("?000", 0, sign), isLetter ? NONE : sign == 32 ? 1 : 0);
            due("fault with a second letter " + sign, faultWith("h000?", 4, sign), isLetter ? 5 : sign == 32 ? NONE : 4);
        }
    }

    static void promise10ProvincesAre0To2() {
        for (int sign = -128; sign <= 127; sign++) {
            due("fault with province " + sign, faultWith("h?00", 1, sign), sign >= '0' && sign <= '2' ? NONE : 1);
        }
    }

    static void promise10MouthsAndSpoonsAre0To9() {
        for (int sign = -128; sign <= 127; sign++) {
            boolean isFigure = sign >= '0' && sign <= '9';
            due("fault with mouths " + sign, faultWith("h0?0", 2, sign), isFigure ? NONE : 2);
            due("fault with spoons " + sign, faultWith("h00?", 3, sign), isFigure ? NONE : 3);
        }
    }

    static void promise10ItsEndComesTooEarly() {
        dueFault("h", 1);
        dueFault("h0", 2);
        dueFault("h00", 3);
        dueFault("h000m", 5);
        dueFault("h000 m00", 8);
        dueFault(" ".repeat(79) + "h", 80);
        dueFault(" ".repeat(77) + "h00", 80);
    }

    static void promise10TheFirstOfTwoFaults() {
        dueFault("h3x", 1);
        dueFault("x3xx", 0);
        dueFault("h0xx", 2);
        dueFault("h3", 1);
        dueFault("h000 x h3", 5);
    }

    static void promise10ANinthHouse() {
        String eight = "h000".repeat(8);
        dueFault(eight, NONE);
        dueFault(eight + " ".repeat(48), NONE);
        dueFault(eight + "h000", 32);
        dueFault(eight + "  s299", 34);
        dueFault(" " + eight + "h000m000", 33);
        dueFault("h000 ".repeat(8) + "b111", 40);
    }

    static void promise10ANinthHouseWithAFaultOfItsOwn() {
        String eight = "h000".repeat(8);
        dueFault(eight + "h", 32);
        dueFault(eight + "h3", 32);
        dueFault(eight + "x", 32);
        dueFault(eight + " ".repeat(47) + "h", 79);
        dueFault("h000".repeat(7) + "h00", 31);
    }

    static void promise10AMissingText() {
        finds(NO_TEXT, "fault(0)", x -> x.fault(0), NOTHING);
        finds(FULL_TEXT, "fault(1) beside one", x -> x.fault(1), NOTHING);
    }

    static void promise10NoSuchText() {
        for (int t : NO_TEXTS) {
            refuses(FULL_TEXT, "fault(" + t + ")", x -> x.fault(t), BAD);
        }
    }

    // ---- land

    /** A land in which all is unlike that of a new one. */
    private static final Story LIVED = after(land("h055 b144"), x -> x.lend(0, 1, 2), x -> x.law(1), x -> x.tax(8, 9),
        x -> x.night(), x -> x.keep(0), x -> x.night(), x -> x.keep(1), x -> x.melt(1, 1), x -> x.keep(2));

    private static void dueLand(String signs, int houses) {
        Story story = after(LIVED, text(1, signs));
        answers(story, "land of '" + signs + "'", x -> x.land(1), houses);
        answers(after(story, x -> x.land(1)), "its houses", x -> x.count(0), houses);
    }

    static void promise11WithoutHouses() {
        dueLand("", 0);
        dueLand(" ".repeat(80), 0);
        Story none = after(LIVED, text(1, ""), x -> x.land(1));
        for (int what = 0; what <= 5; what++) {
            int asked = what;
            answers(none, "count(" + what + ")", x -> x.count(asked), 0);
        }
        refuses(none, "house(0, 0)", x -> x.house(0, 0), BAD);
    }

    static void promise11WithOneHouse() {
        dueLand("h000", 1);
        dueLand(" ".repeat(76) + "s299", 1);
    }

    static void promise11WithEightHouses() {
        dueLand("h000".repeat(8), 8);
        dueLand(EIGHT, 8);
        SpoonCensus x = told(after(LIVED, text(1, "h099m099b101n112g123s234h245h256" + " ".repeat(48)), y -> y.land(1)));
        int[][] want = {{0, 0, 9, 9}, {1, 0, 9, 9}, {2, 1, 0, 1}, {3, 1, 1, 2}, {4, 1, 2, 3}, {5, 2, 3, 4}, {0, 2, 4, 5},
            {0, 2, 5, 6}};
        for (int h = 0; h < 8; h++) {
            for (int what = 0; what < 4; what++) {
                due("house(" + h + ", " + what + ")", x.house(h, what), 1);
                due("house(" + h + ", " + what + "), asked()", x.asked(), want[h][what]);
            }
        }
    }

    static void promise11WithANinthHouse() {
        refuses(after(LIVED, text(1, "h000".repeat(9))), "land(1)", x -> x.land(1), STATE);
        refuses(after(LIVED, text(1, "h000".repeat(8) + " h")), "land(1) with its letter alone", x -> x.land(1), STATE);
    }

    static void promise11AFaultChangesNothing() {
        for (String signs : new String[] {"x000", "h300", "h0x0", "h00x", "h", "h0", "h00", "h055 b14", "h 000"}) {
            refuses(after(LIVED, text(1, signs)), "land of '" + signs + "'", x -> x.land(1), STATE);
        }
    }

    static void promise11Anew() {
        SpoonCensus x = told(after(LIVED, y -> y.land(0), y -> y.text(0, 0)));
        SpoonCensus fresh = told(after(land("h055 b144"), y -> y.text(0, 0)));
        same("a land made again", x, fresh);
        for (int k = 0; k < 3; k++) {
            int kept = k;
            finds(after(LIVED, y -> y.land(0)), "on(" + k + ")", y -> y.on(kept), NOTHING);
        }
        refuses(after(LIVED, y -> y.land(0)), "undo()", y -> y.undo(), STATE);
        finds(after(LIVED, y -> y.land(0)), "was(0, 0)", y -> y.was(0, 0), BEYOND);
        answers(after(LIVED, y -> y.land(0)), "what the LAW was", y -> y.law(2), 0);
        asks(after(LIVED, land("m155")), "gains(0) by TAX 1", y -> y.gains(0), 1, 1);
        refuses(after(LIVED, land("m155")), "look() by FINE 0", y -> y.look(), NONE);
    }

    static void promise11RowsAndTextsAndWhatWasToldStay() {
        Story story = after(row(4, 1, 2), text(0, "h055"), text(2, "m"));
        SpoonCensus x = told(story);
        SpoonCensus twin = told(story);
        x.land(0);
        due("asked()", x.asked(), twin.asked());
        due("upper()", x.upper(), twin.upper());
        due("lower()", x.lower(), twin.lower());
        due("rows", x.count(6), 1);
        due("texts", x.count(7), 3);
        due("the other text", x.put(2, 0, 1), 1109);
        due("its own text", x.put(0, 0, 1), 1104);
        due("the house stays", x.count(0), 1);
        for (int f = 1; f <= 5; f++) {
            due("findings(" + f + ")", x.findings(f), 1);
        }
    }

    static void promise11AMissingText() {
        finds(LIVED, "land(1)", x -> x.land(1), NOTHING);
        finds(NO_TEXT, "land(0)", x -> x.land(0), NOTHING);
    }

    static void promise11NoSuchText() {
        for (int t : NO_TEXTS) {
            refuses(LIVED, "land(" + t + ")", x -> x.land(t), BAD);
        }
    }
}
