import java.math.BigInteger;
import java.util.ArrayList;
import java.util.Arrays;
import java.util.List;

/** Boundaries of what is told: promises 45 to 51. */
final class ToldBounds extends Boundary {
    /** House 0 lies; two NIGHTS; row 0 has spoons, text 0 the land; 77 was told last by asked(). */
    private static final Story LIVED = after(land("m055 h144 h244"), row(0, 77, 4), x -> x.lay(0, 0, 3), nights(2),
        x -> x.tax(5, 9), x -> x.keep(0));
    private static final Story NO_HOUSES = land("");

    private record Named(String what, Call call) { }

    private static final Named[] TELL_BY_ASKED = {
        new Named("lay", x -> x.lay(0, 0, 8)), new Named("at", x -> x.at(0, 1)), new Named("mean", x -> x.mean(0)),
        new Named("house", x -> x.house(0, 3)), new Named("hands", x -> x.hands(0)), new Named("sack", x -> x.sack(0)),
        new Named("off", x -> x.off()), new Named("liar", x -> x.liar()), new Named("best", x -> x.best()),
        new Named("span", x -> x.span(0, 3)), new Named("lost", x -> x.lost(0, 0, 12)), new Named("gains", x -> x.gains(0)),
        new Named("look", x -> x.look()), new Named("next", x -> x.next(0))};
    private static final int[] ASKED = {3, 4, 3, 5, 4, 5, -1, -1, 1, 4, 1, 5, 1, 4};

    private static final Named[] TELL_BY_FRACTIONS = {
        new Named("off", x -> x.off()), new Named("ways", x -> x.ways(0, 0)), new Named("odds", x -> x.odds(0, 0, 1)),
        new Named("leads", x -> x.leads(0, 0)), new Named("next", x -> x.next(1))};
    private static final int[] UPPER = {1, 2, 1, 2, 4};
    private static final int[] LOWER = {1, 1, 2, 1, 1};

    private static final Named[] TELL_NEITHER = {
        new Named("row", x -> x.row(1, 2)), new Named("tear", x -> x.tear(0)), new Named("copy", x -> x.copy(0, 0, 0, 1, 1)),
        new Named("text", x -> x.text(1, 2)), new Named("put", x -> x.put(0, 0, 104)), new Named("fault", x -> x.fault(0)),
        new Named("land", x -> x.land(0)), new Named("mark", x -> x.mark(0, 1)), new Named("law", x -> x.law(1)),
        new Named("lend", x -> x.lend(0, 1, 1)), new Named("melt", x -> x.melt(0, 1)), new Named("born", x -> x.born(0)),
        new Named("gone", x -> x.gone(0)), new Named("night", x -> x.night()), new Named("undo", x -> x.undo()),
        new Named("keep", x -> x.keep(1)), new Named("on", x -> x.on(0)), new Named("was", x -> x.was(0, 0)),
        new Named("sure", x -> x.sure(0, 3)), new Named("tax", x -> x.tax(1, 1)), new Named("fine", x -> x.fine(1)),
        new Named("led", x -> x.led(0, 0)), new Named("lead", x -> x.lead(0, 0, 1)), new Named("most", x -> x.most(0, 0)),
        new Named("years", x -> x.years(3, 5)), new Named("asked", x -> x.asked()), new Named("upper", x -> x.upper()),
        new Named("lower", x -> x.lower()), new Named("count", x -> x.count(1)), new Named("finding", x -> x.finding()),
        new Named("findings", x -> x.findings(1)), new Named("digest", x -> x.digest())};

    // ---- asked

    static void promise45ItIs0Before() {
        SpoonCensus x = new SpoonCensus();
        due("asked() of a new object", x.asked(), 0);
        after(land("h055 h144"), row(0, 3), y -> y.lend(0, 1, 1), nights(2), y -> y.ways(0, 5), y -> y.leads(0, 0)).tell(x);
        due("asked() behind calls that don't tell by it", x.asked(), 0);
    }

    static void promise45WhatEachCallTells() {
        for (int i = 0; i < TELL_BY_ASKED.length; i++) {
            SpoonCensus x = told(LIVED);
            due(TELL_BY_ASKED[i].what() + "() is not refused", TELL_BY_ASKED[i].call().on(x) >= 0 ? 1 : 0, 1);
            due("asked() behind " + TELL_BY_ASKED[i].what() + "()", x.asked(), ASKED[i]);
        }
    }

    static void promise45OthersLeaveIt() {
        for (Named named : TELL_NEITHER) {
            SpoonCensus x = told(LIVED);
            named.call().on(x);
            due("asked() behind " + named.what() + "()", x.asked(), 77);
        }
        for (Named named : TELL_BY_FRACTIONS) {
            if (!named.what().equals("off") && !named.what().equals("next")) {
                SpoonCensus x = told(LIVED);
                named.call().on(x);
                due("asked() behind " + named.what() + "()", x.asked(), 77);
            }
        }
    }

    static void promise45RefusedOnesLeaveIt() {
        refuses(LIVED, "BAD", x -> x.at(6, 0), BAD);
        finds(LIVED, "FINDING", x -> x.at(0, 2), BEYOND);
        refuses(NO_HOUSES, "STATE", x -> x.liar(), STATE);
        refuses(land("h000 ".repeat(6)), "SPENT", x -> x.span(0, 0), SPENT);
        refuses(after(LIVED, x -> x.tax(5, 0)), "NONE", x -> x.look(), NONE);
    }

    // ---- upper, lower

    static void promise46ItIs0Before() {
        SpoonCensus x = new SpoonCensus();
        due("upper() of a new object", x.upper(), 0);
        after(land("h055 h144"), row(0, 3), y -> y.at(0, 0), y -> y.house(0, 2), y -> y.night(), y -> y.next(0)).tell(x);
        due("upper() behind calls that don't tell by it", x.upper(), 0);
    }

    static void promise46WhatEachCallTells() {
        for (int i = 0; i < TELL_BY_FRACTIONS.length; i++) {
            tells(LIVED, TELL_BY_FRACTIONS[i].what() + "()", TELL_BY_FRACTIONS[i].call(), UPPER[i], LOWER[i]);
        }
    }

    private static void dueFractionStays(Named named) {
        SpoonCensus x = told(LIVED);
        named.call().on(x);
        due("upper() behind " + named.what() + "()", x.upper(), 3);
        due("lower() behind " + named.what() + "()", x.lower(), 2);
    }

    static void promise46OthersLeaveIt() {
        for (Named named : TELL_NEITHER) {
            dueFractionStays(named);
        }
        for (Named named : TELL_BY_ASKED) {
            if (!named.what().equals("off") && !named.what().equals("next")) {
                dueFractionStays(named);
            }
        }
    }

    static void promise46RefusedOnesLeaveIt() {
        refuses(LIVED, "BAD", x -> x.ways(0, 100), BAD);
        finds(LIVED, "FINDING", x -> x.odds(0, 9, 0), NOUGHT);
        refuses(after(LIVED, x -> x.undo()), "STATE", x -> x.next(0), STATE);
        refuses(land("h000 ".repeat(6)), "SPENT", x -> x.ways(0, 0), SPENT);
    }

    static void promise47ItIs1Before() {
        SpoonCensus x = new SpoonCensus();
        due("lower() of a new object", x.lower(), 1);
        after(land("h055 h144"), row(0, 3), y -> y.at(0, 0), y -> y.night(), y -> y.next(0)).tell(x);
        due("lower() behind calls that don't tell by it", x.lower(), 1);
    }

    static void promise47NoughtIs0By1() {
        tells(LIVED, "no ways", x -> x.ways(0, 9), 0, 1);
        tells(LIVED, "no odds", x -> x.odds(0, 0, 2), 0, 1);
        tells(after(LIVED, row(1, 9, 9)), "no ways to lead", x -> x.leads(0, 1), 0, 1);
        tells(after(land("h155"), nights(3)), "a mean of nothing", x -> x.next(0), 0, 1);
        tells(land("h155"), "no lies", x -> x.off(), 0, 1);
    }

    static void promise47InLowestTerms() {
        Story fall = after(land("h066"), x -> x.night(), x -> x.melt(0, 2), x -> x.night(), x -> x.melt(0, 1), x -> x.night());
        tells(fall, "6, 4, 3 by 3", x -> x.next(0), 13, 3);
        tells(after(fall, x -> x.melt(0, 2), x -> x.night()), "6, 4, 3, 1 by 4", x -> x.next(0), 7, 2);
        tells(after(fall, x -> x.born(0), x -> x.born(0), x -> x.night()), "6, 4, 3, 5 by 4", x -> x.next(0), 9, 2);
    }

    // ---- count

    static void promise48From0To8() {
        int[] want = {3, 13, 13, 2, 0, 0, 1, 2, 2};
        for (int what = 0; what <= 8; what++) {
            int asked = what;
            onlyAnswers(LIVED, "count(" + what + ")", x -> x.count(asked), want[what]);
        }
        for (int what : new int[] {-1, 9, 10, LEAST, GREATEST}) {
            refuses(LIVED, "count(" + what + ")", x -> x.count(what), BAD);
            refuses(NO_HOUSES, "count(" + what + ") without houses", x -> x.count(what), BAD);
        }
    }

    static void promise48FewestAndMost() {
        due("houses", told(NO_HOUSES).count(0), 0);
        due("houses, eight", told(land(EIGHT)).count(0), 8);
        due("mouths, none", told(land("h009")).count(1), 0);
        due("mouths, all", told(land("h090 ".repeat(8))).count(1), 72);
        due("spoons, none", told(land("h090 ".repeat(8))).count(2), 0);
        due("spoons, all", told(land("h009 ".repeat(8))).count(2), 72);
        due("nights, none", told(land("h009")).count(3), 0);
        due("nights, all", told(after(land("h009"), nights(30))).count(3), 30);
        due("borrowers, none", told(land("h000 m000 n000 s000")).count(4), 0);
        due("borrowers, all", told(land("b000 g000 ".repeat(4))).count(4), 8);
        due("nomads, none", told(land("h000 m000 b000 g000")).count(5), 0);
        due("nomads, all", told(land("n000 s000 ".repeat(4))).count(5), 8);
        due("rows, none", new SpoonCensus().count(6), 0);
        due("rows, all", told(after(row(0), row(1), row(2), row(3), row(4), row(5))).count(6), 6);
        due("texts, none", new SpoonCensus().count(7), 0);
        due("texts, all", told(after(text(0, ""), text(1, ""), text(2, ""), text(3, ""))).count(7), 4);
    }

    static void promise48DeedsKeptInMind() {
        Story toAndFro = x -> {
            x.lend(0, 1, 1);
            x.back(0, 1, 1);
        };
        Story land = land("h055 h055");
        due("none", told(land).count(8), 0);
        due("one", told(after(land, x -> x.gone(0))).count(8), 1);
        due("fifty-nine", told(after(land, times(29, toAndFro), x -> x.gone(0))).count(8), 59);
        due("sixty", told(after(land, times(30, toAndFro))).count(8), 60);
        due("sixty of sixty-one", told(after(land, times(30, toAndFro), x -> x.gone(0))).count(8), 60);
        due("fifty-nine of sixty-one", told(after(land, times(30, toAndFro), x -> x.gone(0), x -> x.undo())).count(8), 59);
    }

    // ---- finding, findings

    static void promise49ItIs0Before() {
        SpoonCensus x = new SpoonCensus();
        due("finding() of a new object", x.finding(), 0);
        x.row(6, 0);
        x.night();
        x.undo();
        x.fine(9);
        due("finding() behind BAD and STATE", x.finding(), 0);
        x.fault(0);
        due("finding() behind a FINDING", x.finding(), NOTHING);
    }

    static void promise49EachFinding() {
        finds(LIVED, "NOTHING", x -> x.at(1, 0), NOTHING);
        finds(LIVED, "BEYOND", x -> x.at(0, 2), BEYOND);
        finds(LIVED, "UNLIKE", x -> x.mark(0, 2), UNLIKE);
        finds(LIVED, "NOUGHT", x -> x.span(0, 99), NOUGHT);
        finds(LIVED, "SIZE", x -> x.text(0, -1), SIZE);
    }

    static void promise49RefusedWithoutAFindingItStays() {
        refuses(after(LIVED, x -> x.at(0, 9)), "BAD", x -> x.row(0, 61), BAD);
        refuses(land("h090"), "FULL", x -> x.born(0), FULL);
        refuses(land("h000"), "STATE", x -> x.gone(0), STATE);
        refuses(land("h000 ".repeat(6)), "SPENT", x -> x.sure(0, 0), SPENT);
        refuses(land("h010"), "NONE", x -> x.look(), NONE);
    }

    static void promise50FindingsAre1To5() {
        for (int f = 1; f <= 5; f++) {
            int finding = f;
            onlyAnswers(LIVED, "findings(" + f + ")", x -> x.findings(finding), 1);
            due("findings(" + f + ") of a new object", new SpoonCensus().findings(f), 0);
        }
        for (int f : new int[] {0, -1, 6, 7, LEAST, GREATEST}) {
            refuses(LIVED, "findings(" + f + ")", x -> x.findings(f), BAD);
        }
    }

    static void promise50AsOftenAsItWasAnswered() {
        SpoonCensus x = new SpoonCensus();
        for (int i = 1; i <= 480; i++) {
            due("tear(0)", x.tear(0), FINDING);
        }
        due("findings(1)", x.findings(1), 480);
        for (int f = 2; f <= 5; f++) {
            due("findings(" + f + ")", x.findings(f), 0);
        }
    }

    // ---- digest

    private static final class Parts {
        private final List<Integer> all = new ArrayList<>();

        Parts add(int... values) {
            Arrays.stream(values).forEach(all::add);
            return this;
        }

        long folded() {
            BigInteger h = BigInteger.valueOf(17);
            for (int v : all) {
                h = h.multiply(BigInteger.valueOf(31)).add(BigInteger.valueOf(v));
            }
            return h.longValue();
        }
    }

    private static final int[] MISSING_ROWS = {-1, -1, -1, -1, -1, -1};
    private static final int[] MISSING_TEXTS = {-1, -1, -1, -1};
    private static final int[] MISSING_LANDS = {-1, -1, -1};

    private static void dueDigest(String what, SpoonCensus x, Parts parts) {
        due("digest() " + what, x.digest(), parts.folded());
    }

    static void promise51OfANewObject() {
        dueDigest("of a new object", new SpoonCensus(), new Parts().add(0, 0, 0, 0, 0, 0, 0, 0, 0).add(0, 1, 0)
            .add(MISSING_LANDS).add(MISSING_ROWS).add(MISSING_TEXTS));
    }

    static void promise51ItWrapsAround() {
        SpoonCensus x = new SpoonCensus();
        int[] values = new int[60];
        Arrays.fill(values, GREATEST);
        Arrays.fill(values, 20, 40, LEAST);
        for (int r = 0; r <= 5; r++) {
            row(r, values).tell(x);
        }
        Parts parts = new Parts().add(0, 0, 0, 0, 0, 0, 6, 0, 0).add(0, 1, 0).add(MISSING_LANDS);
        for (int r = 0; r <= 5; r++) {
            parts.add(60).add(values);
        }
        dueDigest("of full rows", x, parts.add(MISSING_TEXTS));
    }

    static void promise51RowsAndTextsWithNoPlaces() {
        SpoonCensus x = new SpoonCensus();
        x.row(1, 0);
        x.text(3, 0);
        dueDigest("of no places", x, new Parts().add(0, 0, 0, 0, 0, 0, 1, 1, 0).add(0, 1, 0).add(MISSING_LANDS)
            .add(-1, 0, -1, -1, -1, -1).add(-1, -1, -1, 0));
        x.tear(1);
        dueDigest("of a row torn", x, new Parts().add(0, 0, 0, 0, 0, 0, 0, 1, 0).add(0, 1, 0).add(MISSING_LANDS)
            .add(MISSING_ROWS).add(-1, -1, -1, 0));
    }

    static void promise51BytesBelow0() {
        SpoonCensus x = new SpoonCensus();
        x.text(0, 3);
        x.put(0, 0, -128);
        x.put(0, 1, 255);
        dueDigest("of bytes", x, new Parts().add(0, 0, 0, 0, 0, 0, 0, 1, 0).add(0, 1, 0).add(MISSING_LANDS)
            .add(MISSING_ROWS).add(3, -128, -1, 32, -1, -1, -1));
    }

    static void promise51AFullText() {
        SpoonCensus x = new SpoonCensus();
        x.text(2, 80);
        int[] blanks = new int[80];
        Arrays.fill(blanks, 32);
        dueDigest("of 80 blanks", x, new Parts().add(0, 0, 0, 0, 0, 0, 0, 1, 0).add(0, 1, 0).add(MISSING_LANDS)
            .add(MISSING_ROWS).add(-1, -1, 80).add(blanks).add(-1));
    }

    static void promise51OneHouseWithItself() {
        SpoonCensus x = new SpoonCensus();
        after(land("s298"), y -> y.law(2), y -> y.tax(99, 98), y -> y.keep(2)).tell(x);
        dueDigest("of one house", x, new Parts().add(1, 9, 8, 0, 0, 1, 0, 1, 0).add(2, 99, 98).add(5, 2, 9, 8, 0, 0).add(0)
            .add(-1, -1, 0).add(MISSING_ROWS).add(4, 's', '2', '9', '8').add(-1, -1, -1));
    }

    static void promise51DebtsByAThenB() {
        SpoonCensus x = new SpoonCensus();
        after(land("h009h009"), y -> y.text(0, 0), y -> y.lend(0, 1, 2), y -> y.lend(1, 0, 5)).tell(x);
        dueDigest("of two houses", x, new Parts().add(2, 0, 18, 0, 0, 0, 0, 1, 2).add(0, 1, 0)
            .add(0, 0, 0, 12, 5, 2).add(0, 0, 0, 6, 2, 5).add(0, 2, 5, 0)
            .add(MISSING_LANDS).add(MISSING_ROWS).add(0, -1, -1, -1));
    }

    static void promise51ThirtyNights() {
        SpoonCensus x = new SpoonCensus();
        after(land("n011h133"), y -> y.text(0, 0), y -> y.keep(0), nights(30), y -> y.keep(1)).tell(x);
        Parts parts = new Parts().add(2, 4, 4, 30, 0, 1, 0, 1, 30).add(0, 1, 0).add(3, 0, 1, 1, 0, 0).add(0, 1, 3, 3, 0, 0)
            .add(0, 0, 0, 0);
        for (int night = 0; night < 30; night++) {
            parts.add(night % 2 == 0 ? 1 : 0, 3, 0);
        }
        dueDigest("of 30 nights", x, parts.add(0, 30, -1).add(MISSING_ROWS).add(0, -1, -1, -1));
    }

    static void promise51EightHouses() {
        SpoonCensus x = new SpoonCensus();
        after(land("h012".repeat(8)), y -> y.text(0, 0)).tell(x);
        Parts parts = new Parts().add(8, 8, 16, 0, 0, 0, 0, 1, 0).add(0, 1, 0);
        for (int h = 0; h < 8; h++) {
            parts.add(0, 0, 1, 2, 0, 0);
        }
        dueDigest("of eight houses", x, parts.add(new int[64]).add(MISSING_LANDS).add(MISSING_ROWS).add(0, -1, -1, -1));
    }

    static void promise51AskedStays() {
        SpoonCensus x = told(LIVED);
        long first = x.digest();
        due("asked()", x.asked(), 77);
        due("digest() again", x.digest(), first);
        SpoonCensus twin = told(LIVED);
        same("digest() changes nothing", x, twin);
    }

    // ---- terms

    static void termsAnObjectIsUsedFor512Calls() {
        SpoonCensus x = new SpoonCensus();
        land("h019 h155").tell(x);
        int calls = 10;
        while (calls < 510) {
            due("lend() at call " + calls, x.lend(0, 1, 1), 1);
            due("back() at call " + calls, x.back(0, 1, 1), 0);
            calls += 2;
        }
        due("night() at call 511", x.night(), 6);
        due("count(8) at call 512", x.count(8), 60);
    }

    static void termsTheConstants() {
        due("BAD", SpoonCensus.BAD, -1);
        due("FULL", SpoonCensus.FULL, -2);
        due("FINDING", SpoonCensus.FINDING, -3);
        due("STATE", SpoonCensus.STATE, -4);
        due("SPENT", SpoonCensus.SPENT, -6);
        due("NONE", SpoonCensus.NONE, -9);
    }
}
