import java.util.Random;

/** Long runs of calls by lots, on SpoonCensus and on PlainCensus: each answer, and all that is told, must be the same. */
public final class AgainstPlainTest {
    private static final int RUNS = 600, CALLS = 512;
    private static final int[] WILD = {Integer.MIN_VALUE, Integer.MIN_VALUE + 1, -1000, -2, -1, 0, 1, 2, 3, 4, 5, 6, 7,
        8, 9, 10, 30, 31, 40, 41, 60, 61, 80, 81, 99, 100, 512, 999, 1000, Integer.MAX_VALUE - 1, Integer.MAX_VALUE};
    private static final String LETTERS = "hmbngs";

    private final Random lots;
    private final SpoonCensus real = new SpoonCensus();
    private final PlainCensus plain = new PlainCensus();
    private final StringBuilder story = new StringBuilder();
    private final boolean[] used = new boolean[51];

    private AgainstPlainTest(long seed) {
        lots = new Random(seed);
    }

    public static void main(String[] args) {
        boolean[] used = new boolean[51];
        for (int run = 0; run < RUNS; run++) {
            AgainstPlainTest test = new AgainstPlainTest(run);
            if (!test.holds(run)) {
                System.out.println("run " + run + " differs:\n" + test.story);
                System.exit(1);
            }
            for (int i = 0; i < used.length; i++) {
                used[i] |= test.used[i];
            }
        }
        for (int i = 0; i <= 48; i++) {
            if (!used[i]) {
                System.out.println("call " + i + " was never drawn");
                System.exit(1);
            }
        }
        System.out.println(RUNS + " runs are the same");
    }

    private boolean holds(int run) {
        int done = 0;
        boolean same = sameState("the new object", 0, 0);
        while (same && done < CALLS) {
            int draw = lots.nextInt(100);
            if (run % 4 != 3 && (done == 0 || draw == 0)) {
                same = writeLand();
                done += 40;
            } else if (draw < 3) {
                same = writeRows();
                done += 18;
            } else {
                same = call(lots.nextInt(49));
                done++;
            }
        }
        return same;
    }

    private int upTo(int bound) {
        return lots.nextInt(bound + 1);
    }

    /** Mostly a number that is one, at times a wild one. */
    private int mostly(int low, int high) {
        return lots.nextInt(25) == 0 ? WILD[lots.nextInt(WILD.length)] : low + lots.nextInt(high - low + 1);
    }

    private int house() {
        return mostly(0, Math.max(plain.count(0) - 1, 0));
    }

    private int ofSacks() {
        return lots.nextInt(3) == 0 ? mostly(0, 99) : mostly(0, lots.nextInt(50) + 1);
    }

    private int night() {
        return mostly(0, Math.max(plain.count(3) - (lots.nextInt(5) == 0 ? 0 : 1), 0));
    }

    private boolean writeLand() {
        StringBuilder text = new StringBuilder();
        int houses = lots.nextInt(12) == 0 ? 9 : lots.nextInt(5) == 0 ? upTo(3) : 2 + upTo(6);
        int provinces = lots.nextInt(4) == 0 ? 1 : 3;
        for (int h = 0; h < houses; h++) {
            text.append(" ".repeat(lots.nextInt(3) == 0 ? upTo(2) : 0));
            text.append(LETTERS.charAt(lots.nextInt(6))).append(lots.nextInt(provinces));
            int mouths = upTo(9);
            text.append(mouths).append(lots.nextInt(2) == 0 ? mouths : upTo(9));
        }
        text.append(" ".repeat(upTo(2)));
        if (lots.nextInt(8) == 0 && text.length() > 0) {
            text.setCharAt(lots.nextInt(text.length()), (char) (30 + lots.nextInt(90)));
        }
        int size = Math.min(text.length(), lots.nextInt(10) == 0 ? upTo(40) : 80);
        boolean same = same("text(0, " + size + ")", real.text(0, size), plain.text(0, size));
        for (int i = 0; same && i < size; i++) {
            same = same("put(0, " + i + ", " + (int) text.charAt(i) + ")", real.put(0, i, text.charAt(i)),
                    plain.put(0, i, text.charAt(i)));
        }
        same = same && same("fault(0)", real.fault(0), plain.fault(0));
        return same && same("land(0)", real.land(0), plain.land(0));
    }

    private boolean writeRows() {
        int size = lots.nextInt(12) == 0 ? upTo(10) : upTo(8);
        int middle = upTo(9);
        int wide = 1 + upTo(3);
        boolean same = true;
        for (int r = 0; same && r < 2; r++) {
            int itsSize = lots.nextInt(20) == 0 ? upTo(9) : size;
            int row = r;
            same = same("row(" + row + ", " + itsSize + ")", real.row(row, itsSize), plain.row(row, itsSize));
            for (int i = 0; same && i < itsSize; i++) {
                int v = lots.nextInt(60) == 0 ? WILD[lots.nextInt(WILD.length)]
                    : Math.max(0, Math.min(9, middle + upTo(2 * wide) - wide));
                same = same("lay(" + row + ", " + i + ", " + v + ")", real.lay(row, i, v), plain.lay(row, i, v));
            }
        }
        return same && leadCalls();
    }

    private boolean leadCalls() {
        return same("leads(0, 1)", real.leads(0, 1), plain.leads(0, 1))
            && same("led(0, 1)", real.led(0, 1), plain.led(0, 1))
            && same("most(0, 1)", real.most(0, 1), plain.most(0, 1))
            && same("lead(0, 1, 2)", real.lead(0, 1, 2), plain.lead(0, 1, 2));
    }

    private boolean call(int which) {
        used[which] = true;
        int[] a;
        switch (which) {
            case 0: a = new int[] {mostly(0, 5), mostly(0, 12)};
                return same(which, real.row(a[0], a[1]), plain.row(a[0], a[1]), a);
            case 1: a = new int[] {mostly(0, 5), mostly(0, 12), mostly(-9, 9)};
                return same(which, real.lay(a[0], a[1], a[2]), plain.lay(a[0], a[1], a[2]), a);
            case 2: a = new int[] {mostly(0, 5), mostly(0, 12)};
                return same(which, real.at(a[0], a[1]), plain.at(a[0], a[1]), a);
            case 3: a = new int[] {mostly(0, 5)};
                return same(which, real.tear(a[0]), plain.tear(a[0]), a);
            case 4: a = new int[] {mostly(0, 5), mostly(0, 9), mostly(0, 5), mostly(0, 9), mostly(0, 6)};
                return same(which, real.copy(a[0], a[1], a[2], a[3], a[4]), plain.copy(a[0], a[1], a[2], a[3], a[4]), a);
            case 5: a = new int[] {mostly(0, 5)};
                return same(which, real.mean(a[0]), plain.mean(a[0]), a);
            case 6: a = new int[] {mostly(1, 3), mostly(0, 30)};
                return same(which, real.text(a[0], a[1]), plain.text(a[0], a[1]), a);
            case 7: a = new int[] {mostly(1, 3), mostly(0, 30), mostly(-300, 300)};
                return same(which, real.put(a[0], a[1], a[2]), plain.put(a[0], a[1], a[2]), a);
            case 8: a = new int[] {mostly(0, 3)};
                return same(which, real.fault(a[0]), plain.fault(a[0]), a);
            case 9: a = new int[] {lots.nextInt(10) == 0 ? mostly(0, 3) : 4};
                return same(which, real.land(a[0]), plain.land(a[0]), a);
            case 10: a = new int[] {house(), mostly(0, 5)};
                return same(which, real.house(a[0], a[1]), plain.house(a[0], a[1]), a);
            case 11: a = new int[] {house(), mostly(0, 5)};
                return same(which, real.mark(a[0], a[1]), plain.mark(a[0], a[1]), a);
            case 12: a = new int[] {mostly(0, 2)};
                return same(which, real.law(a[0]), plain.law(a[0]), a);
            default:
                return callDeed(which);
        }
    }

    private boolean callDeed(int which) {
        int[] a;
        switch (which) {
            case 13: a = new int[] {house(), house(), mostly(1, 9)};
                return same(which, real.lend(a[0], a[1], a[2]), plain.lend(a[0], a[1], a[2]), a);
            case 14: a = new int[] {house(), house(), mostly(1, 4)};
                return same(which, real.back(a[0], a[1], a[2]), plain.back(a[0], a[1], a[2]), a);
            case 15: a = new int[] {house(), mostly(1, 9)};
                return same(which, real.melt(a[0], a[1]), plain.melt(a[0], a[1]), a);
            case 16: a = new int[] {house()};
                return same(which, real.born(a[0]), plain.born(a[0]), a);
            case 17: a = new int[] {house()};
                return same(which, real.gone(a[0]), plain.gone(a[0]), a);
            case 18: a = new int[0];
                return same(which, real.night(), plain.night(), a);
            case 19: a = new int[0];
                return same(which, real.undo(), plain.undo(), a);
            case 20: a = new int[] {mostly(0, 2)};
                return same(which, real.keep(a[0]), plain.keep(a[0]), a);
            case 21: a = new int[] {mostly(0, 2)};
                return lots.nextInt(3) != 0 || same(which, real.on(a[0]), plain.on(a[0]), a);
            case 22: a = new int[] {house()};
                return same(which, real.hands(a[0]), plain.hands(a[0]), a);
            case 23: a = new int[] {mostly(0, 2)};
                return same(which, real.sack(a[0]), plain.sack(a[0]), a);
            case 24: a = new int[] {night(), mostly(0, 2)};
                return same(which, real.was(a[0], a[1]), plain.was(a[0], a[1]), a);
            case 25: a = new int[0];
                return same(which, real.off(), plain.off(), a);
            case 26: a = new int[0];
                return same(which, real.liar(), plain.liar(), a);
            case 27: a = new int[0];
                return same(which, real.best(), plain.best(), a);
            default:
                return callGuess(which);
        }
    }

    private boolean callGuess(int which) {
        int[] a;
        switch (which) {
            case 28: a = new int[] {mostly(0, 2), ofSacks()};
                return same(which, real.span(a[0], a[1]), plain.span(a[0], a[1]), a);
            case 29: a = new int[] {mostly(0, 2), ofSacks()};
                return same(which, real.ways(a[0], a[1]), plain.ways(a[0], a[1]), a);
            case 30: a = new int[] {house(), ofSacks(), mostly(0, 9)};
                return same(which, real.odds(a[0], a[1], a[2]), plain.odds(a[0], a[1], a[2]), a);
            case 31: a = new int[] {mostly(0, 2), lots.nextInt(3) == 0 ? mostly(0, 2) : ofSacks()};
                return same(which, real.sure(a[0], a[1]), plain.sure(a[0], a[1]), a);
            case 32: a = new int[] {night(), mostly(0, 2), mostly(0, 80)};
                return same(which, real.lost(a[0], a[1], a[2]), plain.lost(a[0], a[1], a[2]), a);
            case 33: a = new int[] {mostly(0, 12), mostly(0, 30)};
                return same(which, real.tax(a[0], a[1]), plain.tax(a[0], a[1]), a);
            case 34: a = new int[] {house()};
                return same(which, real.gains(a[0]), plain.gains(a[0]), a);
            case 35: a = new int[0];
                return same(which, real.look(), plain.look(), a);
            case 36: a = new int[] {mostly(0, 8)};
                return same(which, real.fine(a[0]), plain.fine(a[0]), a);
            case 37: a = new int[] {mostly(0, 5), mostly(0, 5)};
                return same(which, real.leads(a[0], a[1]), plain.leads(a[0], a[1]), a);
            case 38: a = new int[] {mostly(0, 2), mostly(0, 2)};
                return same(which, real.led(a[0], a[1]), plain.led(a[0], a[1]), a);
            case 39: a = new int[] {mostly(0, 2), mostly(0, 2), mostly(0, 5)};
                return same(which, real.lead(a[0], a[1], a[2]), plain.lead(a[0], a[1], a[2]), a);
            case 40: a = new int[] {mostly(0, 5), mostly(0, 5)};
                return same(which, real.most(a[0], a[1]), plain.most(a[0], a[1]), a);
            default:
                return callTold(which);
        }
    }

    private boolean callTold(int which) {
        int[] a;
        switch (which) {
            case 41: a = new int[] {mostly(0, 2)};
                return same(which, real.next(a[0]), plain.next(a[0]), a);
            case 42: a = new int[] {mostly(1, lots.nextInt(40) + 1), mostly(1, Integer.MAX_VALUE - 1)};
                return lots.nextInt(3) != 0 || same(which, real.years(a[0], a[1]), plain.years(a[0], a[1]), a);
            case 43: a = new int[] {mostly(0, 8)};
                return same(which, real.count(a[0]), plain.count(a[0]), a);
            case 44: a = new int[] {mostly(1, 5)};
                return same(which, real.findings(a[0]), plain.findings(a[0]), a);
            default: a = new int[0];
                return same(which, real.night(), plain.night(), a);
        }
    }

    private boolean same(int which, long got, long want, int[] a) {
        return same("call " + which + java.util.Arrays.toString(a), got, want);
    }

    private boolean same(String call, long got, long want) {
        story.append(call).append(" answered ").append(got).append('\n');
        return sameState(call, got, want);
    }

    private boolean sameState(String call, long got, long want) {
        boolean same = got == want && real.asked() == plain.asked() && real.upper() == plain.upper()
            && real.lower() == plain.lower() && real.finding() == plain.finding() && real.digest() == plain.digest();
        for (int f = 0; f <= 6; f++) {
            same &= real.findings(f) == plain.findings(f);
        }
        if (!same) {
            story.append(call).append(": ").append(got).append(", due is ").append(want)
                .append("; asked ").append(real.asked()).append(", due ").append(plain.asked())
                .append("; upper ").append(real.upper()).append(", due ").append(plain.upper())
                .append("; lower ").append(real.lower()).append(", due ").append(plain.lower())
                .append("; digest ").append(real.digest()).append(", due ").append(plain.digest()).append('\n');
        }
        return same;
    }
}
