import java.util.ArrayList;
import java.util.List;

/**
 * What the tests of boundaries share. A check tells a story to a new object, makes one call and looks at the answer;
 * of a refused call it looks, too, at all that a second object tells that heard the same story without the call.
 */
abstract class Boundary {
    static final int BAD = -1, FULL = -2, FINDING = -3, STATE = -4, SPENT = -6, NONE = -9;
    static final int NOTHING = 1, BEYOND = 2, UNLIKE = 3, NOUGHT = 4, SIZE = 5;
    static final int LEAST = Integer.MIN_VALUE, GREATEST = Integer.MAX_VALUE;
    /** A land of eight houses, each of which hides a mouth but the first. */
    static final String EIGHT = "h099 h187 h276 h065 h154 h243 h032 h121";

    private static String running = "";
    private static int checks = 0, wrong = 0;

    interface Story {
        void tell(SpoonCensus x);
    }

    interface Call {
        long on(SpoonCensus x);
    }

    static void begin(String test) {
        running = test;
    }

    static int checksMade() {
        return checks;
    }

    static int checksWrong() {
        return wrong;
    }

    // ---- stories

    static Story after(Story... stories) {
        return x -> {
            for (Story story : stories) {
                story.tell(x);
            }
        };
    }

    static Story times(int n, Story story) {
        return x -> {
            for (int i = 0; i < n; i++) {
                story.tell(x);
            }
        };
    }

    static Story text(int t, String signs) {
        return x -> {
            x.text(t, signs.length());
            for (int i = 0; i < signs.length(); i++) {
                if (signs.charAt(i) != ' ') {
                    x.put(t, i, signs.charAt(i));
                }
            }
        };
    }

    /** By text 0. */
    static Story land(String signs) {
        return after(text(0, signs), x -> x.land(0));
    }

    static Story row(int r, int... values) {
        return x -> {
            x.row(r, values.length);
            for (int i = 0; i < values.length; i++) {
                if (values[i] != 0) {
                    x.lay(r, i, values[i]);
                }
            }
        };
    }

    static Story nights(int n) {
        return times(n, x -> x.night());
    }

    /** Some 20 calls, behind which all that is told is unlike what a new object tells: 77, 3 by 2, one of each finding. */
    private static void tellSomething(SpoonCensus x) {
        text(3, "h122").tell(x);
        x.land(3);
        x.night();
        x.melt(0, 1);
        x.night();
        x.next(1);
        row(5, 77).tell(x);
        x.at(5, 0);
        x.on(0);
        x.at(5, 9);
        x.mark(0, 1);
        x.span(0, 99);
        x.row(5, -1);
        x.tear(5);
        x.text(3, 0);
        x.land(3);
    }

    static SpoonCensus told(Story story) {
        SpoonCensus x = new SpoonCensus();
        tellSomething(x);
        story.tell(x);
        return x;
    }

    // ---- checks

    static void due(String what, long got, long want) {
        checks++;
        if (got != want) {
            wrong++;
            System.out.println(running + ": " + what + " is " + got + ", due is " + want);
        }
    }

    static void dueRow(SpoonCensus x, int r, int... values) {
        for (int i = 0; i < values.length; i++) {
            due("at(" + r + ", " + i + ")", x.at(r, i), 1);
            due("place " + i + " of row " + r, x.asked(), values[i]);
        }
        due("the place behind the last of row " + r, x.at(r, values.length), FINDING);
    }

    static void answers(Story story, String what, Call call, long want) {
        due(what, call.on(told(story)), want);
    }

    /** A call that tells by asked(). */
    static void asks(Story story, String what, Call call, long want, long asked) {
        SpoonCensus x = told(story);
        due(what, call.on(x), want);
        due(what + ", asked()", x.asked(), asked);
    }

    /** A call that answers 1 and tells by upper(), lower(). */
    static void tells(Story story, String what, Call call, long upper, long lower) {
        SpoonCensus x = told(story);
        due(what, call.on(x), 1);
        due(what + ", upper()", x.upper(), upper);
        due(what + ", lower()", x.lower(), lower);
    }

    /** BAD, FULL, STATE, SPENT or NONE: nothing has changed. */
    static void refuses(Story story, String what, Call call, long answer) {
        compare(story, what, call, answer, 0);
    }

    /** FINDING: nothing has changed but what finding() and findings() tell of it. */
    static void finds(Story story, String what, Call call, int finding) {
        compare(story, what, call, FINDING, finding);
    }

    /** A call that answers by a number alone: nothing has changed. */
    static void onlyAnswers(Story story, String what, Call call, long answer) {
        compare(story, what, call, answer, 0);
    }

    private static void compare(Story story, String what, Call call, long answer, int finding) {
        SpoonCensus x = told(story);
        SpoonCensus twin = told(story);
        due(what, call.on(x), answer);
        due(what + ", finding()", x.finding(), finding == 0 ? twin.finding() : finding);
        for (int f = 1; f <= 5; f++) {
            due(what + ", findings(" + f + ")", x.findings(f), twin.findings(f) + (f == finding ? 1 : 0));
        }
        same(what, x, twin);
    }

    static void same(String what, SpoonCensus x, SpoonCensus twin) {
        List<Long> got = all(x);
        List<Long> want = all(twin);
        int i = 0;
        while (i < got.size() && i < want.size() && got.get(i).equals(want.get(i))) {
            i++;
        }
        due(what + ", of all that is told (0 asked, 1 upper, 2 lower, 3 digest, 4 .. kept lands and deeds)"
            + " how much is as it was", i, Math.max(got.size(), want.size()));
    }

    /** Some 140 calls; it goes on from the kept lands at the end, so that they are told whole. */
    private static List<Long> all(SpoonCensus x) {
        List<Long> all = new ArrayList<>();
        all.add((long) x.asked());
        all.add(x.upper());
        all.add(x.lower());
        all.add(x.digest());
        for (int deed = 0; deed <= 60; deed++) {
            all.add((long) x.undo());
            all.add(x.digest());
        }
        for (int k = 0; k < 3; k++) {
            all.add((long) x.on(k));
            all.add(x.digest());
        }
        return all;
    }
}
