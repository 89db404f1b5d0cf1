import java.lang.reflect.InvocationTargetException;
import java.lang.reflect.Method;
import java.util.ArrayList;
import java.util.List;
import java.util.function.Supplier;
import java.util.function.ToLongFunction;

// Each boundary case that the document names (too small, too large, empty, full, a wrap-around, a refused call)
// has a test of its own here. The number in a test's name is that of its promise; what the document says
// under Terms is tested at the promise whose answers show it.
public final class EdgeTest {
    private static final int BAD = -1, NO = -2, FULL = -3, NONE = -1;
    private static final int MIN = Integer.MIN_VALUE, MAX = Integer.MAX_VALUE;
    private static final int PROMISES = 19;
    private static final int MOST_CALLS = 512;
    private static final int ONE = 1 << 30;
    private static final long ALL = 1L << 60;
    private static int wrong = 0;
    private static String test = "";

    private static void due(String call, long got, long want) {
        if (got != want) {
            wrong++;
            System.out.println(test + ": " + call + " answered " + got + ", due is " + want);
        }
    }

    public static void main(String[] args) throws IllegalAccessException {
        for (int promise = 1; promise <= PROMISES; promise++) {
            int ran = 0;
            for (Method each : EdgeTest.class.getDeclaredMethods()) {
                if (each.getName().startsWith("promise" + promise + "_")) {
                    run(each);
                    ran++;
                }
            }
            if (ran == 0) {
                wrong++;
                System.out.println("promise " + promise + " has no test");
            }
        }
        System.out.println(wrong == 0 ? "every edge holds" : wrong + " answers are not as due");
        if (wrong != 0) {
            System.exit(1);
        }
    }

    private static void run(Method each) throws IllegalAccessException {
        test = each.getName();
        try {
            each.invoke(null);
        } catch (InvocationTargetException thrown) {
            wrong++;
            System.out.println(test + ": a call threw " + thrown.getCause());
        }
    }

    // ---- scenes

    /** States of these OUTCOMES, and ARROWS {from, to, sixteenths}. */
    private static RestBounds walk(int[] outcomes, int[][] arrows) {
        RestBounds x = new RestBounds();
        for (int outcome : outcomes) {
            x.state(outcome);
        }
        for (int[] each : arrows) {
            x.arrow(each[0], each[1], each[2]);
        }
        return x;
    }

    private static int[] outcomes(int... each) {
        return each;
    }

    /** 0 goes to itself with a and to the END 1 (OUTCOME 0) with what is left of 16. */
    private static RestBounds loop(int a) {
        return walk(outcomes(NONE, 0), new int[][] {{0, 0, a}, {0, 1, 16 - a}});
    }

    /** 0 goes to 1 with a, 1 to 0 with b; what is left goes to ENDS 2 and 3 (OUTCOMES 0 and 1). */
    private static RestBounds ring(int a, int b) {
        return walk(outcomes(NONE, NONE, 0, 1), new int[][] {{0, 1, a}, {0, 2, 16 - a}, {1, 0, b}, {1, 3, 16 - b}});
    }

    /** 0 and 1 go to both with 8 each: there are ITEMS for as long as a run can be. */
    private static RestBounds endless() {
        RestBounds x = walk(outcomes(NONE, NONE), new int[][] {{0, 0, 8}, {0, 1, 8}, {1, 0, 8}, {1, 1, 8}});
        x.order(2);
        x.begin(0);
        return x;
    }

    /** A LOOP at 0, a RING of 1 and 2, ENDS 3 and 4 (OUTCOMES 0 and 7). */
    private static RestBounds withLaws() {
        RestBounds x = walk(outcomes(NONE, NONE, NONE, 0, 7), new int[][] {
            {0, 0, 4}, {0, 1, 4}, {0, 3, 8}, {1, 2, 8}, {1, 4, 8}, {2, 1, 8}, {2, 3, 8}});
        x.law(0, 0);
        x.law(1, 2);
        x.order(1);
        x.joined(true);
        return x;
    }

    /** Amid a LISTING, with SAVES 0 and 2. */
    private static RestBounds amid() {
        RestBounds x = withLaws();
        x.begin(0);
        x.grow(1);
        x.save(0);
        x.law(1, NONE);
        x.grow(2);
        x.save(2);
        x.grow(1);
        return x;
    }

    /** A LISTING that has no ITEM any more. */
    private static RestBounds spent() {
        RestBounds x = ring(8, 8);
        x.begin(0);
        x.grow(500);
        return x;
    }

    /** 20 states, and 46 ITEMS of which the next one would leave more than 60, or (last = 15) just 60. */
    private static RestBounds wide(int last) {
        RestBounds x = new RestBounds();
        for (int s = 0; s < 20; s++) {
            x.state(s < 4 ? NONE : s % 8);
        }
        for (int s = 0; s < 3; s++) {
            for (int t = 4; t < 19; t++) {
                x.arrow(s, t, 1);
            }
            x.arrow(s, s + 1, 1);
        }
        for (int t = 4; t < 4 + last; t++) {
            x.arrow(3, t, t == 4 ? 17 - last : 1);
        }
        x.order(2);
        x.begin(0);
        x.grow(3);
        return x;
    }

    private static RestBounds stuck() {
        return wide(16);
    }

    // ---- refused calls

    /** Everything that can be seen of an object; the object is used up by it. */
    private static List<Long> picture(RestBounds x) {
        List<Long> seen = new ArrayList<>();
        for (int what = 0; what < 30; what++) {
            seen.add((long) x.told(what));
        }
        int items = x.told(1);
        for (int i = -1; i <= items; i++) {
            seen.add((long) x.item(i, 0));
            seen.add((long) x.item(i, 1));
            seen.add(x.units(i));
        }
        for (int o = 0; o < 8; o++) {
            seen.add(x.found(o));
            seen.add(x.end(1 << o, 0));
            seen.add(x.end(1 << o, 1));
        }
        for (int s = 0; s < 20; s++) {
            seen.add(x.rests(s));
        }
        int on = x.joined(true);
        seen.add((long) on);
        x.joined(on == 1);
        pictureOfSaves(x, seen);
        pictureOfWalk(x, seen);
        due("(calls of one object are too many)", seen.size() < MOST_CALLS - 100 ? 0 : seen.size(), 0);
        return seen;
    }

    private static void pictureOfSaves(RestBounds x, List<Long> seen) {
        for (int k = 0; k < 3; k++) {
            int items = x.back(k);
            seen.add((long) items);
            seen.add((long) x.told(2));
            seen.add(x.found(0));
            seen.add(x.found(7));
            for (int i = 0; i < Math.min(items, 6); i++) {
                seen.add(x.units(i));
                seen.add((long) x.item(i, 1));
            }
        }
    }

    private static void pictureOfWalk(RestBounds x, List<Long> seen) {
        x.joined(false);
        int size = x.told(0);
        for (int s = 0; s < size; s++) {
            seen.add((long) x.begin(s));
            seen.add((long) x.grow(1));
            seen.add(x.units(0));
        }
        for (int s = 0; s < size; s++) {
            seen.add((long) x.arrow(s, 0, 1));
        }
    }

    /** The call answers what is due, and behind it all is as on an object that never had the call. */
    private static void refused(Supplier<RestBounds> scene, String call, ToLongFunction<RestBounds> made, long want) {
        RestBounds x = scene.get();
        due(call, made.applyAsLong(x), want);
        if (!picture(x).equals(picture(scene.get()))) {
            wrong++;
            System.out.println(test + ": " + call + " changed something");
        }
    }

    private static void refusedAnywhere(String call, ToLongFunction<RestBounds> made, long want) {
        refused(RestBounds::new, call + " on a new object", made, want);
        refused(EdgeTest::withLaws, call + " without a LISTING", made, want);
        refused(EdgeTest::amid, call + " amid a LISTING", made, want);
        refused(EdgeTest::spent, call + " without ITEMS", made, want);
        refused(EdgeTest::stuck, call + " when it cannot go on", made, want);
    }

    private static void refusedWithoutListing(String call, ToLongFunction<RestBounds> made, long want) {
        refused(RestBounds::new, call + " on a new object", made, want);
        refused(EdgeTest::withLaws, call + " without a LISTING", made, want);
    }

    private static void refusedAmidListing(String call, ToLongFunction<RestBounds> made, long want) {
        refused(EdgeTest::amid, call + " amid a LISTING", made, want);
        refused(EdgeTest::spent, call + " without ITEMS", made, want);
        refused(EdgeTest::stuck, call + " when it cannot go on", made, want);
    }

    /** Numbers that are not low .. high, also such as would be if only some of their bits were looked at. */
    private static int[] outside(int low, int high) {
        return new int[] {MIN, MIN + 1, MIN + 16, low - 65536, low - 256, low - 1,
            high + 1, high + 256, high + 65536, 1 << 30, MAX - 16, MAX};
    }

    // ---- 1: a new object

    private static void promise1_thereAreNoStates() {
        RestBounds x = new RestBounds();
        due("told(0)", x.told(0), 0);
        due("told(10)", x.told(10), BAD);
        due("begin(0)", x.begin(0), BAD);
        due("arrow(0, 0, 1)", x.arrow(0, 0, 1), BAD);
        due("law(0, -1)", x.law(0, NONE), BAD);
    }

    private static void promise1_thereIsNoListingAndNoSave() {
        RestBounds x = new RestBounds();
        due("told(1)", x.told(1), 0);
        due("told(2)", x.told(2), 0);
        due("told(3)", x.told(3), NONE);
        due("grow(0)", x.grow(0), NO);
        for (int k = 0; k < 3; k++) {
            due("save(" + k + ")", x.save(k), NO);
            due("back(" + k + ")", x.back(k), NO);
        }
    }

    private static void promise1_orderIs0() {
        due("told(4)", new RestBounds().told(4), 0);
        due("order(2)", new RestBounds().order(2), 0);
    }

    private static void promise1_joinedIsOff() {
        due("joined(true)", new RestBounds().joined(true), 0);
        due("joined(false)", new RestBounds().joined(false), 0);
    }

    private static void promise1_anotherObjectIsNotTouched() {
        RestBounds y = new RestBounds();
        RestBounds x = amid();
        due("told(0)", y.told(0), 0);
        due("told(3)", y.told(3), NONE);
        due("told(4)", y.told(4), 0);
        due("joined(true)", y.joined(true), 0);
        due("back(0)", y.back(0), NO);
        due("told(0) of the other", x.told(0), 5);
        due("told(4) of the other", x.told(4), 1);
    }

    private static void promise1_anObjectHoldsFor512Calls() {
        RestBounds x = endless();
        // 6 calls made the walk, 2 the rest
        for (int i = 8; i < MOST_CALLS - 1; i++) {
            due("grow(500)", x.grow(500), 500);
        }
        due("told(2)", x.told(2), 503 * 500);
    }

    // ---- 2: state

    private static void promise2_theLeastAndTheGreatestOutcome() {
        RestBounds x = new RestBounds();
        due("state(0)", x.state(0), 0);
        due("state(7)", x.state(7), 1);
        due("begin(0)", x.begin(0), 1);
        due("begin(1)", x.begin(1), 128);
    }

    private static void promise2_noneIsAStateThatGoesOn() {
        RestBounds x = new RestBounds();
        due("state(-1)", x.state(NONE), 0);
        due("begin(0)", x.begin(0), NO);
        due("arrow(0, 0, 16)", x.arrow(0, 0, 16), 16);
    }

    private static void promise2_badOutcomesAreRefused() {
        for (int outcome : outside(-1, 7)) {
            refusedAnywhere("state(" + outcome + ")", x -> x.state(outcome), BAD);
        }
    }

    private static void promise2_twentyStatesAreTheMost() {
        RestBounds x = new RestBounds();
        for (int s = 0; s < 20; s++) {
            due("state(" + s % 8 + ")", x.state(s % 8), s);
        }
        due("told(0)", x.told(0), 20);
        due("begin(19)", x.begin(19), 1 << 3);
    }

    private static void promise2_theTwentyFirstIsFull() {
        for (int outcome = -1; outcome <= 7; outcome++) {
            int o = outcome;
            refused(EdgeTest::stuck, "state(" + o + ") with 20 states", x -> x.state(o), FULL);
        }
    }

    private static void promise2_badIsAheadOfFull() {
        refused(EdgeTest::stuck, "state(8) with 20 states", x -> x.state(8), BAD);
        refused(EdgeTest::stuck, "state(-2) with 20 states", x -> x.state(-2), BAD);
    }

    private static void promise2_aStateTakesListingSavesAndLawsAway() {
        for (int outcome = -1; outcome <= 7; outcome += 8) {
            RestBounds x = amid();
            due("state(" + outcome + ")", x.state(outcome), 5);
            allIsTakenAway(x);
            due("begin(0): ARROWS stay", x.begin(0), 129);
        }
    }

    private static void allIsTakenAway(RestBounds x) {
        due("told(1)", x.told(1), 0);
        due("told(2)", x.told(2), 0);
        due("told(3)", x.told(3), NONE);
        for (int s = 0; s < x.told(0); s++) {
            due("told(10 + " + s + ")", x.told(10 + s), NONE);
            due("rests(" + s + ")", x.rests(s), 0);
        }
        for (int k = 0; k < 3; k++) {
            due("back(" + k + ")", x.back(k), NO);
            due("save(" + k + ")", x.save(k), NO);
        }
        due("grow(0)", x.grow(0), NO);
        due("units(0)", x.units(0), 0);
        due("item(0, 0)", x.item(0, 0), NO);
        due("found(0)", x.found(0), 0);
        due("end(255, 1)", x.end(255, 1), 0);
        due("told(4): ORDER stays", x.told(4), 1);
        due("joined(true): JOINED stays", x.joined(true), 1);
    }

    // ---- 3: arrow

    private static void promise3_theLeastAndTheMostSixteenths() {
        RestBounds x = walk(outcomes(NONE, NONE, 0), new int[0][]);
        due("arrow(0, 2, 1)", x.arrow(0, 2, 1), 1);
        due("arrow(1, 2, 16)", x.arrow(1, 2, 16), 16);
        due("arrow(0, 2, 15)", x.arrow(0, 2, 15), 16);
    }

    private static void promise3_badSixteenthsAreRefused() {
        for (int k : outside(1, 16)) {
            refused(EdgeTest::amid, "arrow(0, 1, " + k + ")", x -> x.arrow(0, 1, k), BAD);
            refused(() -> walk(outcomes(NONE), new int[0][]), "arrow(0, 0, " + k + ")", x -> x.arrow(0, 0, k), BAD);
        }
    }

    private static void promise3_anEndHasNoArrows() {
        for (int t = 0; t < 5; t++) {
            int to = t;
            refused(EdgeTest::amid, "arrow(3, " + t + ", 1)", x -> x.arrow(3, to, 1), BAD);
            refused(EdgeTest::amid, "arrow(4, " + t + ", 16)", x -> x.arrow(4, to, 16), BAD);
        }
    }

    private static void promise3_noSuchStateIsRefused() {
        for (int s : outside(0, 4)) {
            refused(EdgeTest::amid, "arrow(" + s + ", 0, 1)", x -> x.arrow(s, 0, 1), BAD);
            refused(EdgeTest::amid, "arrow(0, " + s + ", 1)", x -> x.arrow(0, s, 1), BAD);
            refused(EdgeTest::amid, "arrow(" + s + ", " + s + ", 1)", x -> x.arrow(s, s, 1), BAD);
        }
        for (int s : outside(0, 19)) {
            refused(EdgeTest::stuck, "arrow(" + s + ", 0, 1)", x -> x.arrow(s, 0, 1), BAD);
            refused(EdgeTest::stuck, "arrow(0, " + s + ", 1)", x -> x.arrow(0, s, 1), BAD);
        }
    }

    private static void promise3_moreThanSixteenInAllIsFull() {
        for (int has = 1; has <= 16; has++) {
            int first = has;
            Supplier<RestBounds> scene = () -> walk(outcomes(NONE, NONE, 0), new int[][] {{0, 1, first}});
            for (int t = 0; t < 3; t++) {
                int to = t;
                refused(scene, "arrow(0, " + t + ", k) for 17 in all", x -> x.arrow(0, to, 17 - first), FULL);
                if (has < 16) {
                    due("arrow(0, " + t + ", k) for 16 in all", scene.get().arrow(0, t, 16 - has), 16);
                }
            }
        }
        refused(EdgeTest::amid, "arrow(0, 1, 1) of a WHOLE state", x -> x.arrow(0, 1, 1), FULL);
        refused(EdgeTest::amid, "arrow(0, 4, 16) of a WHOLE state", x -> x.arrow(0, 4, 16), FULL);
    }

    private static void promise3_badIsAheadOfFull() {
        refused(EdgeTest::amid, "arrow(0, 1, 17)", x -> x.arrow(0, 1, 17), BAD);
        refused(EdgeTest::amid, "arrow(0, 5, 1)", x -> x.arrow(0, 5, 1), BAD);
        refused(EdgeTest::amid, "arrow(0, 1, 0)", x -> x.arrow(0, 1, 0), BAD);
    }

    private static void promise3_itIsHowManyTheStateHasInAll() {
        RestBounds x = walk(outcomes(NONE, NONE, 0), new int[0][]);
        due("arrow(0, 0, 3)", x.arrow(0, 0, 3), 3);
        due("arrow(1, 0, 9)", x.arrow(1, 0, 9), 9);
        due("arrow(0, 2, 4)", x.arrow(0, 2, 4), 7);
        due("arrow(0, 0, 1)", x.arrow(0, 0, 1), 8);
    }

    private static void promise3_sixteenArrowsInTheOrderOfTheFirst() {
        RestBounds x = new RestBounds();
        for (int s = 0; s < 20; s++) {
            x.state(s == 0 ? NONE : s % 8);
        }
        for (int i = 0; i < 16; i++) {
            due("arrow(0, " + (19 - i) + ", 1)", x.arrow(0, 19 - i, 1), i + 1);
        }
        x.begin(0);
        x.grow(1);
        due("told(1)", x.told(1), 16);
        for (int i = 0; i < 16; i++) {
            due("item(" + i + ", 0)", x.item(i, 0), 19 - i);
            due("units(" + i + ")", x.units(i), ALL / 16);
        }
    }

    private static void promise3_toEachStateThereIsOneAtMost() {
        RestBounds x = walk(outcomes(NONE, 0, 1), new int[][] {{0, 2, 1}, {0, 1, 5}, {0, 2, 9}, {0, 1, 1}});
        x.begin(0);
        x.grow(1);
        due("told(1)", x.told(1), 2);
        due("item(0, 0)", x.item(0, 0), 2);
        due("units(0)", x.units(0), ALL / 16 * 10);
        due("units(1)", x.units(1), ALL / 16 * 6);
    }

    private static void promise3_anArrowTakesListingSavesAndLawsAway() {
        RestBounds x = walk(outcomes(NONE, NONE, 0), new int[][] {{0, 0, 8}, {0, 2, 8}, {1, 2, 15}});
        x.law(0, 0);
        x.order(1);
        x.joined(true);
        x.begin(0);
        x.grow(1);
        x.save(0);
        x.save(1);
        x.save(2);
        due("arrow(1, 2, 1)", x.arrow(1, 2, 1), 16);
        allIsTakenAway(x);
    }

    // ---- 4: law

    private static void promise4_noSuchStateIsRefused() {
        for (int s : outside(0, 4)) {
            refused(EdgeTest::amid, "law(" + s + ", 0)", x -> x.law(s, 0), BAD);
            refused(EdgeTest::amid, "law(" + s + ", -1)", x -> x.law(s, NONE), BAD);
            refused(EdgeTest::amid, "law(" + s + ", " + s + ")", x -> x.law(s, s), BAD);
            if (s != NONE) {
                refused(EdgeTest::amid, "law(0, " + s + ")", x -> x.law(0, s), BAD);
            }
        }
    }

    private static void promise4_anEndHasNoLaw() {
        for (int t = -1; t < 5; t++) {
            int with = t;
            refused(EdgeTest::amid, "law(3, " + t + ")", x -> x.law(3, with), BAD);
            refused(EdgeTest::amid, "law(4, " + t + ")", x -> x.law(4, with), BAD);
        }
    }

    private static void promise4_badIsAheadOfNo() {
        Supplier<RestBounds> scene = () -> walk(outcomes(NONE, 0), new int[][] {{0, 0, 3}});
        refused(scene, "law(0, 2) when 0 is not WHOLE", x -> x.law(0, 2), BAD);
        refused(scene, "law(1, 0) of an END", x -> x.law(1, 0), BAD);
        refused(scene, "law(0, 1): an END is a state", x -> x.law(0, 1), NO);
    }

    private static void promise4_noneIsTakenAtAnyTime() {
        RestBounds x = withLaws();
        due("law(0, -1)", x.law(0, NONE), 1);
        due("told(10)", x.told(10), NONE);
        due("law(0, -1) again", x.law(0, NONE), 1);
        due("law(2, -1) without a LAW", x.law(2, NONE), 1);
        due("told(11): another's LAW stays", x.told(11), 2);
    }

    private static void promise4_aLoopNeedsAnArrowToItself() {
        refused(() -> ring(8, 8), "law(0, 0)", x -> x.law(0, 0), NO);
        refused(EdgeTest::amid, "law(1, 1)", x -> x.law(1, 1), NO);
    }

    private static void promise4_aLoopNeedsAWholeState() {
        refused(() -> walk(outcomes(NONE, 0), new int[][] {{0, 0, 8}, {0, 1, 7}}), "law(0, 0) with 15",
            x -> x.law(0, 0), NO);
        refused(() -> walk(outcomes(NONE, 0), new int[][] {{0, 0, 1}}), "law(0, 0) with 1", x -> x.law(0, 0), NO);
        due("law(0, 0) with 16", loop(8).law(0, 0), 1);
    }

    private static void promise4_aLoopOfSixteenIsRefused() {
        refused(() -> walk(outcomes(NONE), new int[][] {{0, 0, 16}}), "law(0, 0)", x -> x.law(0, 0), NO);
    }

    private static void promise4_theLeastAndTheMostOfALoop() {
        for (int a = 1; a <= 15; a++) {
            RestBounds x = loop(a);
            due("law(0, 0) with " + a, x.law(0, 0), 1);
            due("told(10)", x.told(10), 0);
            x.begin(0);
            due("grow(1)", x.grow(1), 1);
            due("told(1)", x.told(1), 1);
            due("units(0): w is D", x.units(0), ALL);
            due("item(0, 1)", x.item(0, 1), 1);
        }
    }

    private static void promise4_aRingNeedsBothArrows() {
        Supplier<RestBounds> scene = () -> walk(outcomes(NONE, NONE, 0), new int[][] {{0, 1, 8}, {0, 2, 8}, {1, 2, 16}});
        refused(scene, "law(0, 1): 1 has none to 0", x -> x.law(0, 1), NO);
        refused(scene, "law(1, 0): 1 has none to 0", x -> x.law(1, 0), NO);
        refused(scene, "law(0, 2) with an END", x -> x.law(0, 2), NO);
        refused(() -> walk(outcomes(NONE, NONE, 0), new int[][] {{0, 2, 16}, {1, 2, 16}}), "law(0, 1): none at all",
            x -> x.law(0, 1), NO);
    }

    private static void promise4_aRingNeedsTwoWholeStates() {
        Supplier<RestBounds> first = () -> walk(outcomes(NONE, NONE, 0),
            new int[][] {{0, 1, 8}, {0, 2, 7}, {1, 0, 8}, {1, 2, 8}});
        refused(first, "law(0, 1) when 0 is not WHOLE", x -> x.law(0, 1), NO);
        refused(first, "law(1, 0) when 0 is not WHOLE", x -> x.law(1, 0), NO);
    }

    private static void promise4_aRingNeedsStatesWithoutAnArrowToThemselves() {
        Supplier<RestBounds> scene = () -> walk(outcomes(NONE, NONE, 0),
            new int[][] {{0, 1, 8}, {0, 0, 1}, {0, 2, 7}, {1, 0, 8}, {1, 2, 8}});
        refused(scene, "law(0, 1) when 0 has one", x -> x.law(0, 1), NO);
        refused(scene, "law(1, 0) when 0 has one", x -> x.law(1, 0), NO);
        due("law(0, 0)", scene.get().law(0, 0), 1);
    }

    private static void promise4_aRingOf256IsRefused() {
        Supplier<RestBounds> scene = () -> ring(16, 16);
        refused(scene, "law(0, 1)", x -> x.law(0, 1), NO);
        refused(scene, "law(1, 0)", x -> x.law(1, 0), NO);
    }

    private static void promise4_theLeastAndTheMostOfARing() {
        int[][] pairs = {{1, 1}, {1, 16}, {16, 1}, {15, 16}, {16, 15}, {15, 15}};
        for (int[] each : pairs) {
            RestBounds x = ring(each[0], each[1]);
            due("law(0, 1)", x.law(0, 1), 1);
            due("law(1, 0)", x.law(1, 0), 1);
            due("told(10)", x.told(10), 1);
            due("told(11)", x.told(11), 0);
        }
        RestBounds x = ring(1, 1);
        x.law(0, 1);
        x.begin(0);
        x.grow(1);
        // w = 240 and 15, D = 255: 2^60 = 255 * 4521260802379792 + 16
        due("units(0)", x.units(0), 4521260802379792L * 240 + 15);
        due("units(1)", x.units(1), 4521260802379792L * 15);
        due("item(0, 1)", x.item(0, 1), 1);
        due("item(1, 1)", x.item(1, 1), 2);
        due("rests(0)", x.rests(0), 1);
    }

    private static void promise4_aRefusedLawLeavesTheOneThatIs() {
        RestBounds x = ring(8, 8);
        x.law(0, 1);
        due("law(0, 0)", x.law(0, 0), NO);
        due("law(0, 2)", x.law(0, 2), NO);
        due("law(0, 4)", x.law(0, 4), BAD);
        due("told(10)", x.told(10), 1);
    }

    private static void promise4_anItemIsSharedByTheLawThatThereIsThen() {
        RestBounds x = loop(8);
        x.begin(0);
        x.grow(1);
        due("law(0, 0) amid a LISTING", x.law(0, 0), 1);
        due("told(1): the LISTING stays", x.told(1), 2);
        due("units(0): the LISTING stays", x.units(0), ALL / 2);
        due("grow(1)", x.grow(1), 1);
        due("told(1)", x.told(1), 2);
        due("item(1, 1)", x.item(1, 1), 2);
        due("units(1)", x.units(1), ALL / 2);
    }

    // ---- 5: order

    private static void promise5_badKindsAreRefused() {
        for (int kind : outside(0, 2)) {
            refusedAnywhere("order(" + kind + ")", x -> x.order(kind), BAD);
        }
    }

    private static void promise5_itIsWhatItWas() {
        RestBounds x = new RestBounds();
        int[] kinds = {0, 2, 2, 1, 0, 1, 2};
        int was = 0;
        for (int kind : kinds) {
            due("order(" + kind + ")", x.order(kind), was);
            due("told(4)", x.told(4), kind);
            was = kind;
        }
    }

    /** 0 goes to 1, 2, 3 with the weights; each of these to the END 4. */
    private static RestBounds three(int a, int b, int c) {
        RestBounds x = walk(outcomes(NONE, NONE, NONE, NONE, 0), new int[][] {
            {0, 1, a}, {0, 2, b}, {0, 3, c}, {1, 4, 16}, {2, 4, 16}, {3, 4, 16}});
        x.begin(0);
        x.grow(1);
        return x;
    }

    private static void promise5_ofEqualDepthTheFirstMade() {
        RestBounds x = three(1, 5, 10);
        x.grow(1);
        due("item(0, 0): 1 is gone", x.item(0, 0), 2);
        x.grow(1);
        due("item(0, 0): 2 is gone, 3 is of less DEPTH than ENDS", x.item(0, 0), 3);
    }

    private static void promise5_ofEqualUnitsTheFirstMade() {
        RestBounds x = three(4, 6, 6);
        x.order(1);
        x.grow(1);
        due("item(0, 0)", x.item(0, 0), 1);
        due("item(1, 0): 2 is gone", x.item(1, 0), 3);
        x.grow(1);
        due("item(1, 0): 3 is made before the END of as many", x.item(1, 0), 4);
        due("told(1)", x.told(1), 3);
    }

    private static void promise5_theLastMadeWhateverItsDepthAndUnits() {
        RestBounds x = three(10, 5, 1);
        x.order(2);
        x.grow(1);
        due("item(2, 0): 3 is gone", x.item(2, 0), 4);
        x.grow(1);
        due("found(0): the END is gone", x.found(0), ALL / 16);
        due("told(1)", x.told(1), 2);
    }

    // ---- 6: joined

    private static void promise6_onAndOffTwice() {
        RestBounds x = new RestBounds();
        due("joined(true)", x.joined(true), 0);
        due("joined(true)", x.joined(true), 1);
        due("joined(false)", x.joined(false), 1);
        due("joined(false)", x.joined(false), 0);
        due("joined(true)", x.joined(true), 0);
    }

    private static void promise6_whatIsJoinedStaysInItsPlace() {
        RestBounds x = three(1, 5, 10);
        x.joined(true);
        x.order(2);
        x.grow(1);
        due("item(2, 0)", x.item(2, 0), 4);
        x.order(0);
        x.grow(1);
        // 1's SHARE joins the END, which is made behind 2
        due("told(1)", x.told(1), 2);
        due("item(0, 0)", x.item(0, 0), 2);
        due("units(1)", x.units(1), ALL / 16 * 11);
        x.grow(1);
        due("told(1)", x.told(1), 1);
        due("units(0)", x.units(0), ALL);
        due("end(1, 0): what is joined is enclosed", x.end(1, 0), ALL);
        due("end(1, 1): what is joined is enclosed", x.end(1, 1), ALL);
    }

    private static void promise6_anotherDepthIsNotJoined() {
        RestBounds x = loop(8);
        x.joined(true);
        x.begin(0);
        x.grow(2);
        due("told(1)", x.told(1), 3);
        due("item(0, 0)", x.item(0, 0), 1);
        due("item(0, 1)", x.item(0, 1), 1);
        due("item(2, 0)", x.item(2, 0), 1);
        due("item(2, 1)", x.item(2, 1), 2);
    }

    private static void promise6_anotherStateIsNotJoined() {
        RestBounds x = walk(outcomes(NONE, 0, 0), new int[][] {{0, 1, 8}, {0, 2, 8}});
        x.joined(true);
        x.begin(0);
        x.grow(1);
        due("told(1)", x.told(1), 2);
    }

    private static void promise6_itemsThatAreThereAreNotJoined() {
        RestBounds x = three(4, 4, 8);
        x.grow(3);
        due("told(1) with JOINED off", x.told(1), 3);
        x.joined(true);
        due("told(1) with JOINED on", x.told(1), 3);
        x.joined(false);
        due("told(1) with JOINED off", x.told(1), 3);
    }

    private static void promise6_sharesOfOneSharingAreJoinedAtDepth40() {
        for (int on = 0; on < 2; on++) {
            // by ORDER 2 an END is taken at once, so that one of 0 and 1 is at DEPTH 39 behind 78 goings on
            RestBounds x = walk(outcomes(NONE, NONE, 0), new int[][] {{0, 1, 8}, {0, 2, 8}, {1, 0, 8}, {1, 2, 8}});
            x.order(2);
            x.begin(0);
            x.grow(78);
            due("item(0, 1)", x.item(0, 1), 39);
            x.law(1, 0);
            x.joined(on == 1);
            due("grow(1)", x.grow(1), 1);
            due("told(1)", x.told(1), on == 1 ? 1 : 2);
        }
    }

    // ---- 7: begin

    private static void promise7_noSuchStateIsRefused() {
        for (int s : outside(0, 4)) {
            refused(EdgeTest::amid, "begin(" + s + ")", x -> x.begin(s), BAD);
            refused(EdgeTest::withLaws, "begin(" + s + ")", x -> x.begin(s), BAD);
        }
        for (int s : outside(0, 19)) {
            refused(EdgeTest::stuck, "begin(" + s + ")", x -> x.begin(s), BAD);
        }
        refused(RestBounds::new, "begin(0)", x -> x.begin(0), BAD);
    }

    /** 0 to 1 to 2 to the END 3; 2 has 15 or 16; 4 has no ARROW; a LISTING at the END. */
    private static RestBounds chain(int last) {
        RestBounds x = walk(outcomes(NONE, NONE, NONE, 5, NONE), new int[][] {{0, 1, 16}, {1, 2, 16}, {2, 3, last}});
        x.begin(3);
        x.save(1);
        return x;
    }

    private static void promise7_aStateThatIsNotWholeIsRefusedItselfToo() {
        refused(() -> chain(15), "begin(2) with 15 in all", x -> x.begin(2), NO);
        refused(() -> chain(16), "begin(4) without ARROWS", x -> x.begin(4), NO);
    }

    private static void promise7_aStateThatIsNotWholeIsRefusedFarOff() {
        refused(() -> chain(15), "begin(1)", x -> x.begin(1), NO);
        refused(() -> chain(15), "begin(0)", x -> x.begin(0), NO);
    }

    private static void promise7_aStateThatIsNotComeToMayBeNotWhole() {
        due("begin(0)", chain(16).begin(0), 32);
        due("begin(3)", chain(15).begin(3), 32);
    }

    private static void promise7_itIsTheReachOfAnEnd() {
        RestBounds x = new RestBounds();
        for (int o = 0; o < 8; o++) {
            x.state(o);
        }
        for (int o = 0; o < 8; o++) {
            due("begin(" + o + ")", x.begin(o), 1 << o);
        }
    }

    private static void promise7_theReachIsEmptyOrFull() {
        RestBounds x = walk(outcomes(NONE, 0, 1, 2, 3, 4, 5, 6, 7, NONE), new int[][] {{9, 9, 16}, {0, 9, 8}});
        for (int o = 1; o <= 8; o++) {
            x.arrow(0, o, 1);
        }
        due("begin(0)", x.begin(0), 255);
        due("begin(9)", x.begin(9), 0);
        due("told(3)", x.told(3), 9);
    }

    private static void promise7_theReachIsByHoweverManyArrows() {
        for (int step = -1; step <= 1; step += 2) {
            RestBounds x = new RestBounds();
            int end = step < 0 ? 0 : 19;
            for (int s = 0; s < 20; s++) {
                x.state(s == end ? 6 : NONE);
            }
            for (int s = 0; s < 20; s++) {
                x.arrow(s, s + step, 16);
            }
            due("begin of the farthest one", x.begin(19 - end), 64);
        }
    }

    private static void promise7_itBeginsAnewSavesAndLawsStay() {
        RestBounds x = amid();
        due("begin(1)", x.begin(1), 129);
        due("told(1)", x.told(1), 1);
        due("told(2)", x.told(2), 0);
        due("told(3)", x.told(3), 1);
        due("item(0, 0)", x.item(0, 0), 1);
        due("item(0, 1)", x.item(0, 1), 0);
        due("units(0)", x.units(0), ALL);
        for (int o = 0; o < 8; o++) {
            due("found(" + o + ")", x.found(o), 0);
        }
        for (int s = 0; s < 5; s++) {
            due("rests(" + s + ")", x.rests(s), 0);
        }
        due("told(10)", x.told(10), 0);
        due("told(4)", x.told(4), 1);
        due("back(0)", x.back(0), 2);
        due("back(1)", x.back(1), NO);
    }

    // ---- 8: grow

    private static void promise8_badNumbersAreRefused() {
        for (int n : outside(0, 500)) {
            refusedAnywhere("grow(" + n + ")", x -> x.grow(n), BAD);
        }
    }

    private static void promise8_withoutAListingItIsRefused() {
        refusedWithoutListing("grow(0)", x -> x.grow(0), NO);
        refusedWithoutListing("grow(1)", x -> x.grow(1), NO);
        refusedWithoutListing("grow(500)", x -> x.grow(500), NO);
    }

    private static void promise8_zeroTimesChangesNothing() {
        refusedAmidListing("grow(0)", x -> x.grow(0), 0);
    }

    private static void promise8_fiveHundredTimes() {
        RestBounds x = endless();
        due("grow(500)", x.grow(500), 500);
        due("told(2)", x.told(2), 500);
        due("grow(499)", x.grow(499), 499);
        due("told(2)", x.told(2), 999);
    }

    private static void promise8_untilThereIsNoItem() {
        RestBounds x = loop(15);
        x.law(0, 0);
        x.begin(0);
        due("grow(500)", x.grow(500), 2);
        due("told(1)", x.told(1), 0);
        due("found(0)", x.found(0), ALL);
        refused(EdgeTest::spent, "grow(1) without ITEMS", y -> y.grow(1), 0);
        refused(EdgeTest::spent, "grow(500) without ITEMS", y -> y.grow(500), 0);
    }

    private static void promise8_sixtyItemsAreNotTooMany() {
        RestBounds x = wide(15);
        due("told(1)", x.told(1), 46);
        due("grow(1)", x.grow(1), 1);
        due("told(1)", x.told(1), 60);
        due("item(59, 0)", x.item(59, 0), 18);
        due("item(59, 1)", x.item(59, 1), 4);
    }

    private static void promise8_sixtyOneItemsAreTooMany() {
        refused(EdgeTest::stuck, "grow(1)", x -> x.grow(1), 0);
        refused(EdgeTest::stuck, "grow(500)", x -> x.grow(500), 0);
        RestBounds x = stuck();
        due("item(45, 0): it is not taken out", x.item(45, 0), 3);
        x.order(0);
        due("grow(1): another ITEM can", x.grow(1), 1);
        x.order(2);
        due("grow(1): now it can", x.grow(1), 1);
        due("told(1)", x.told(1), 60);
    }

    private static void promise8_anEndGoesOnAmongSixtyItems() {
        RestBounds x = wide(15);
        x.grow(1);
        due("grow(1)", x.grow(1), 1);
        due("told(1)", x.told(1), 59);
        due("found(2): 18 has OUTCOME 2", x.found(2), ALL >> 16);
    }

    private static void promise8_oneShareGoesOnAmongSixtyItems() {
        // 0 .. 3 have 16, 16, 16 and 15 ARROWS, the last of them to the next one; 4 has one
        RestBounds x = new RestBounds();
        for (int s = 0; s < 20; s++) {
            x.state(s < 5 ? NONE : s % 8);
        }
        for (int s = 0; s < 4; s++) {
            for (int t = s < 3 ? 5 : 6; t < 20; t++) {
                x.arrow(s, t, 1);
            }
            x.arrow(s, s + 1, s < 3 ? 1 : 2);
        }
        x.arrow(4, 19, 16);
        x.order(2);
        x.begin(0);
        due("grow(4)", x.grow(4), 4);
        due("told(1)", x.told(1), 60);
        due("item(59, 0)", x.item(59, 0), 4);
        due("grow(1)", x.grow(1), 1);
        due("told(1)", x.told(1), 60);
        due("item(59, 0)", x.item(59, 0), 19);
        due("item(59, 1)", x.item(59, 1), 5);
    }

    private static void promise8_sharesThatAreJoinedAreNoItemsMore() {
        // 0 goes to 1 .. 5, each of these to the 14 ENDS: 56 ITEMS are of ENDS when 5 is next
        RestBounds x = new RestBounds();
        for (int s = 0; s < 20; s++) {
            x.state(s < 6 ? NONE : s % 8);
        }
        for (int s = 1; s < 6; s++) {
            x.arrow(0, s, s == 5 ? 4 : 3);
            for (int t = 6; t < 20; t++) {
                x.arrow(s, t, t == 6 ? 3 : 1);
            }
        }
        x.begin(0);
        due("grow(500): 5 would leave 70", x.grow(500), 5);
        due("told(1)", x.told(1), 57);
        x.joined(true);
        due("grow(1)", x.grow(1), 1);
        due("told(1)", x.told(1), 56);
        due("FOUND, OPEN and RESTS together", allUnits(x), ALL);
    }

    /** So many ITEMS, the last of them 1 at DEPTH 39 with a RING: its four SHARES are two ITEMS if they are joined. */
    private static RestBounds deepAndWide(int items) {
        RestBounds x = walk(outcomes(NONE, NONE, 0, 1), new int[][] {
            {0, 2, 4}, {0, 3, 4}, {0, 1, 8}, {1, 2, 4}, {1, 3, 4}, {1, 0, 8}});
        x.order(2);
        x.begin(0);
        x.grow(20);
        x.order(0);
        x.grow(79 - items);
        x.order(2);
        x.grow(19);
        x.law(1, 0);
        due("told(1)", x.told(1), items);
        due("item of the last", x.item(items - 1, 0), 1);
        due("DEPTH of the last", x.item(items - 1, 1), 39);
        return x;
    }

    private static void promise8_sharesThatFindNoItemToJoinAreItemsMore() {
        RestBounds x = stuck();
        x.joined(true);
        due("grow(1): 61", x.grow(1), 0);
        due("told(1)", x.told(1), 46);
        x = wide(15);
        x.joined(true);
        due("grow(1): 60", x.grow(1), 1);
        due("told(1)", x.told(1), 60);
    }

    private static void promise8_sharesOfOneSharingThatAreJoinedAreOneItem() {
        RestBounds x = deepAndWide(59);
        due("grow(1): 62 with JOINED off", x.grow(1), 0);
        x.joined(true);
        due("grow(1): 60 with JOINED on", x.grow(1), 1);
        due("told(1)", x.told(1), 60);
        x = deepAndWide(60);
        x.joined(true);
        due("grow(1): 61 with JOINED on", x.grow(1), 0);
        due("told(1)", x.told(1), 60);
        x = deepAndWide(58);
        due("grow(1): 61 with JOINED off", x.grow(1), 0);
        x = deepAndWide(57);
        due("grow(1): 60 with JOINED off", x.grow(1), 1);
        due("told(1)", x.told(1), 60);
    }

    private static void promise8_aRingHasThirtySharesAtMost() {
        RestBounds x = new RestBounds();
        for (int s = 0; s < 20; s++) {
            x.state(s < 2 ? NONE : s % 8);
        }
        x.arrow(0, 1, 1);
        x.arrow(1, 0, 1);
        for (int t = 2; t < 17; t++) {
            x.arrow(0, t, 1);
            x.arrow(1, t + 3, 1);
        }
        due("law(0, 1)", x.law(0, 1), 1);
        x.begin(0);
        due("grow(1)", x.grow(1), 1);
        due("told(1)", x.told(1), 30);
        due("item(14, 0)", x.item(14, 0), 16);
        due("item(14, 1)", x.item(14, 1), 1);
        due("item(15, 0)", x.item(15, 0), 5);
        due("item(29, 0)", x.item(29, 0), 19);
        due("item(29, 1)", x.item(29, 1), 2);
    }

    private static void promise8_atDepth39ItIsSharedAtDepth40ItRests() {
        RestBounds x = loop(8);
        x.order(2);
        x.begin(0);
        // by ORDER 2 the END, made last, is taken next: two for each DEPTH
        due("grow(78)", x.grow(78), 78);
        due("item(0, 1)", x.item(0, 1), 39);
        due("rests(0)", x.rests(0), 0);
        due("grow(2)", x.grow(2), 2);
        due("told(1)", x.told(1), 1);
        due("item(0, 0)", x.item(0, 0), 0);
        due("item(0, 1)", x.item(0, 1), 40);
        due("units(0)", x.units(0), 1L << 20);
        due("grow(1)", x.grow(1), 1);
        due("rests(0)", x.rests(0), 1L << 20);
        due("told(1)", x.told(1), 0);
        due("told(2)", x.told(2), 81);
    }

    private static void promise8_atDepth40ALawDoesNotShare() {
        RestBounds x = loop(8);
        x.order(2);
        x.begin(0);
        x.grow(80);
        x.law(0, 0);
        due("grow(1)", x.grow(1), 1);
        due("rests(0)", x.rests(0), 1L << 20);
        due("told(1)", x.told(1), 0);
    }

    private static void promise8_anEndAtDepth40IsFound() {
        RestBounds x = loop(8);
        x.begin(0);
        x.grow(80);
        due("item(0, 0)", x.item(0, 0), 1);
        due("item(0, 1)", x.item(0, 1), 40);
        due("grow(1)", x.grow(1), 1);
        due("found(0)", x.found(0), ALL - (1L << 20));
        due("rests(1)", x.rests(1), 0);
    }

    private static void promise8_aRingsSecondDepthIs40AtMost() {
        for (int d = 37; d <= 39; d++) {
            RestBounds x = ring(8, 8);
            x.order(2);
            x.begin(0);
            x.grow(2 * d);
            int s = x.item(0, 0);
            due("item(0, 1)", x.item(0, 1), d);
            x.law(s, 1 - s);
            due("grow(1)", x.grow(1), 1);
            due("told(1)", x.told(1), 2);
            due("item(0, 1)", x.item(0, 1), d + 1);
            due("item(1, 1)", x.item(1, 1), Math.min(40, d + 2));
        }
    }

    private static void promise8_sharesOfNoUnitsAreNone() {
        // 0 has 2^(60 - 3 d) UNITS at DEPTH d, and three go on for each DEPTH: at 19 it has 8
        RestBounds x = walk(outcomes(NONE, 0, 1), new int[][] {{0, 0, 2}, {0, 1, 1}, {0, 2, 13}});
        x.order(2);
        x.begin(0);
        due("grow(57)", x.grow(57), 57);
        due("told(1)", x.told(1), 1);
        due("units(0)", x.units(0), 8);
        due("rests(0)", x.rests(0), 0);
        due("grow(1)", x.grow(1), 1);
        due("told(1)", x.told(1), 2);
        due("item(0, 0)", x.item(0, 0), 0);
        due("units(0)", x.units(0), 1);
        due("item(1, 0)", x.item(1, 0), 2);
        due("units(1)", x.units(1), 6);
        due("rests(0)", x.rests(0), 1);
    }

    private static void promise8_oneUnitIsNotShared() {
        RestBounds x = loop(1);
        x.order(2);
        x.begin(0);
        due("grow(30)", x.grow(30), 30);
        due("item(0, 1)", x.item(0, 1), 15);
        due("units(0)", x.units(0), 1);
        due("grow(1)", x.grow(1), 1);
        due("told(1)", x.told(1), 0);
        due("rests(0)", x.rests(0), 1);
    }

    private static void promise8_oneUnitIsNotSharedByALaw() {
        RestBounds x = walk(outcomes(NONE, 0, 1), new int[][] {{0, 0, 1}, {0, 1, 8}, {0, 2, 7}});
        x.order(2);
        x.begin(0);
        due("grow(45)", x.grow(45), 45);
        due("item(0, 1)", x.item(0, 1), 15);
        due("units(0)", x.units(0), 1);
        x.law(0, 0);
        due("grow(1)", x.grow(1), 1);
        due("told(1)", x.told(1), 0);
        due("rests(0)", x.rests(0), 1);
    }

    private static void promise8_allUnitsStayAll() {
        for (RestBounds x : List.of(amid(), spent(), endless())) {
            for (int i = 0; i < 8; i++) {
                due("FOUND, OPEN and RESTS together", allUnits(x), ALL);
                if (i % 3 == 2) {
                    x.order(i % 2);
                }
                x.grow(i);
            }
        }
    }

    private static long allUnits(RestBounds x) {
        long sum = 0;
        int items = x.told(1);
        for (int i = 0; i < items; i++) {
            long units = x.units(i);
            due("units(" + i + ") are 1 or more", units > 0 ? 1 : 0, 1);
            sum += units;
        }
        for (int o = 0; o < 8; o++) {
            sum += x.found(o);
        }
        for (int s = 0; s < 20; s++) {
            sum += x.rests(s);
        }
        return sum;
    }

    // ---- 9: until

    private static void promise9_badSetsAreRefused() {
        for (int set : outside(0, 255)) {
            refusedAnywhere("until(" + set + ", 1, 1)", x -> x.until(set, 1, 1), BAD);
        }
    }

    private static void promise9_badWidthsAreRefused() {
        for (int w : outside(0, 60)) {
            refusedAnywhere("until(1, " + w + ", 1)", x -> x.until(1, w, 1), BAD);
        }
        refusedAnywhere("until(1, 64, 1): a shift of 64 is none", x -> x.until(1, 64, 1), BAD);
    }

    private static void promise9_badNumbersAreRefused() {
        for (int n : outside(0, 500)) {
            refusedAnywhere("until(1, 1, " + n + ")", x -> x.until(1, 1, n), BAD);
        }
    }

    private static void promise9_withoutAListingItIsRefused() {
        refusedWithoutListing("until(0, 0, 0)", x -> x.until(0, 0, 0), NO);
        refusedWithoutListing("until(255, 60, 500)", x -> x.until(255, 60, 500), NO);
    }

    private static void promise9_zeroTimesChangesNothing() {
        refusedAmidListing("until(1, 60, 0)", x -> x.until(1, 60, 0), 0);
    }

    private static void promise9_theWholeWidthIsNarrowEnoughFor0() {
        refusedAmidListing("until(1, 0, 500)", x -> x.until(1, 0, 500), 0);
        Supplier<RestBounds> scene = () -> {
            RestBounds x = ring(8, 8);
            x.begin(0);
            return x;
        };
        due("end(1, 1)", scene.get().end(1, 1), ALL);
        due("end(1, 0)", scene.get().end(1, 0), 0);
        refused(scene, "until(1, 0, 500)", x -> x.until(1, 0, 500), 0);
        due("until(1, 1, 500)", scene.get().until(1, 1, 500), 1);
    }

    private static void promise9_aWidthThatIsJustSoWideIsNarrowEnough() {
        // each going on from 0 or 1 halves it, an END leaves it: 0, 1, END, 0, END, 1, ..
        for (int w = 1; w <= 10; w++) {
            RestBounds x = ring(8, 8);
            x.begin(0);
            due("until(1, " + w + ", 500)", x.until(1, w, 500), w < 2 ? w : 2 * w - 2);
            due("WIDTH", x.end(1, 1) - x.end(1, 0), ALL >> w);
            due("until(1, " + w + ", 500) again", x.until(1, w, 500), 0);
        }
    }

    private static void promise9_aWidthOf1IsNarrowEnoughFor60() {
        // as in the shared test: by the RING one UNIT rests
        RestBounds x = ring(10, 9);
        x.law(0, 1);
        x.begin(0);
        due("until(1, 60, 500)", x.until(1, 60, 500), 1);
        due("WIDTH", x.end(1, 1) - x.end(1, 0), 1);
        due("told(1)", x.told(1), 2);
    }

    private static void promise9_aWidthOf2IsTooWideFor60() {
        // 1 has 2^(57 - 4 k) UNITS at DEPTH 1 + k; by ORDER 2 the going on 3 k shares it: 2 UNITS behind 42
        RestBounds x = walk(outcomes(NONE, NONE, 0, 1), new int[][] {
            {0, 1, 2}, {0, 2, 14}, {1, 1, 1}, {1, 2, 8}, {1, 3, 7}});
        x.order(2);
        x.begin(0);
        due("until(1, 59, 500)", x.until(1, 59, 500), 42);
        due("WIDTH", x.end(1, 1) - x.end(1, 0), 2);
        due("until(1, 59, 500) again", x.until(1, 59, 500), 0);
        due("until(1, 60, 500)", x.until(1, 60, 500), 3);
        due("WIDTH", x.end(1, 1) - x.end(1, 0), 1);
        due("rests(1)", x.rests(1), 1);
        due("told(1)", x.told(1), 1);
    }

    private static void promise9_emptyAndFullSetsHaveNoWidth() {
        Supplier<RestBounds> scene = () -> {
            RestBounds x = ring(8, 8);
            x.begin(0);
            return x;
        };
        refused(scene, "until(0, 60, 500)", x -> x.until(0, 60, 500), 0);
        refused(scene, "until(255, 60, 500)", x -> x.until(255, 60, 500), 0);
        refused(scene, "until(3, 60, 500)", x -> x.until(3, 60, 500), 0);
        refused(scene, "until(252, 60, 500): OUTCOMES of none", x -> x.until(252, 60, 500), 0);
    }

    private static void promise9_nTimesAtMost() {
        RestBounds x = ring(8, 8);
        x.begin(0);
        due("until(1, 10, 17)", x.until(1, 10, 17), 17);
        due("until(1, 10, 1)", x.until(1, 10, 1), 1);
        due("until(1, 10, 1)", x.until(1, 10, 1), 0);
    }

    private static void promise9_fiveHundredTimes() {
        // 0 and 1 go to both, and to an END each but seldom
        RestBounds x = walk(outcomes(NONE, NONE, 0, 1), new int[][] {
            {0, 0, 8}, {0, 1, 7}, {0, 2, 1}, {1, 0, 7}, {1, 1, 8}, {1, 3, 1}});
        x.order(2);
        x.begin(0);
        due("until(1, 60, 500)", x.until(1, 60, 500), 500);
        due("told(2)", x.told(2), 500);
    }

    private static void promise9_untilThereIsNoItem() {
        RestBounds x = ring(8, 8);
        x.begin(0);
        due("until(1, 60, 500)", x.until(1, 60, 500), 81);
        due("told(1)", x.told(1), 0);
        refused(EdgeTest::spent, "until(1, 60, 500) without ITEMS", y -> y.until(1, 60, 500), 0);
    }

    private static void promise9_untilItCannot() {
        RestBounds x = stuck();
        x.begin(0);
        due("until(1, 60, 500)", x.until(1, 60, 500), 3);
        refused(EdgeTest::stuck, "until(1, 60, 500)", y -> y.until(1, 60, 500), 0);
    }

    // ---- 10: end

    private static void promise10_badSetsAreNothing() {
        for (int set : outside(0, 255)) {
            refusedAnywhere("end(" + set + ", 0)", x -> x.end(set, 0), 0);
            refusedAnywhere("end(" + set + ", 1)", x -> x.end(set, 1), 0);
        }
    }

    private static void promise10_badSidesAreNothing() {
        for (int side : outside(0, 1)) {
            refusedAnywhere("end(255, " + side + ")", x -> x.end(255, side), 0);
        }
    }

    private static void promise10_withoutAListingItIsNothing() {
        refusedWithoutListing("end(255, 0)", x -> x.end(255, 0), 0);
        refusedWithoutListing("end(255, 1)", x -> x.end(255, 1), 0);
    }

    private static void promise10_theEmptySet() {
        refusedAmidListing("end(0, 0)", x -> x.end(0, 0), 0);
        refusedAmidListing("end(0, 1)", x -> x.end(0, 1), 0);
    }

    private static void promise10_theFullSet() {
        refusedAmidListing("end(255, 0)", x -> x.end(255, 0), ALL);
        refusedAmidListing("end(255, 1)", x -> x.end(255, 1), ALL);
    }

    private static void promise10_noEndIsComeTo() {
        RestBounds x = endless();
        for (int set = 0; set <= 255; set += 51) {
            due("end(" + set + ", 0)", x.end(set, 0), 0);
            due("end(" + set + ", 1)", x.end(set, 1), 0);
        }
    }

    private static void promise10_aSetThatHasJustTheReach() {
        RestBounds x = ring(8, 8);
        x.begin(0);
        due("end(3, 0)", x.end(3, 0), ALL);
        due("end(131, 0)", x.end(131, 0), ALL);
        due("end(1, 0)", x.end(1, 0), 0);
        due("end(2, 0)", x.end(2, 0), 0);
        due("end(254, 0)", x.end(254, 0), 0);
        due("end(254, 1)", x.end(254, 1), ALL);
        due("end(252, 1)", x.end(252, 1), 0);
    }

    private static void promise10_openEndsAreOfBoth() {
        RestBounds x = ring(8, 8);
        due("begin(2)", x.begin(2), 1);
        due("end(1, 0)", x.end(1, 0), ALL);
        due("end(1, 1)", x.end(1, 1), ALL);
        due("end(254, 1)", x.end(254, 1), 0);
        x.grow(1);
        due("end(1, 0) of what is FOUND", x.end(1, 0), ALL);
        due("end(1, 1) of what is FOUND", x.end(1, 1), ALL);
    }

    private static void promise10_theGreatestOutcomeIsFound() {
        RestBounds x = amid();
        x.begin(4);
        x.grow(1);
        due("found(7)", x.found(7), ALL);
        due("end(128, 0)", x.end(128, 0), ALL);
        due("end(128, 1)", x.end(128, 1), ALL);
        due("end(127, 0)", x.end(127, 0), 0);
        due("end(127, 1)", x.end(127, 1), 0);
    }

    private static void promise10_aStateThatIsNotSureBecauseOfState0() {
        RestBounds x = walk(outcomes(NONE, NONE, 4), new int[][] {{0, 0, 16}, {1, 0, 1}, {1, 2, 15}});
        due("begin(1)", x.begin(1), 16);
        due("end(16, 0)", x.end(16, 0), 0);
        due("end(16, 1)", x.end(16, 1), ALL);
        due("begin(0): not SURE itself", x.begin(0), 0);
        due("end(255, 0)", x.end(255, 0), 0);
        due("end(255, 1)", x.end(255, 1), 0);
    }

    private static void promise10_aStateThatIsNotSureIsOfHighAlone() {
        // 0 to 1, 1 to the END 2 and to 3, which comes to no END
        RestBounds x = walk(outcomes(NONE, NONE, 4, NONE), new int[][] {{0, 1, 16}, {1, 2, 15}, {1, 3, 1}, {3, 3, 16}});
        due("begin(0)", x.begin(0), 16);
        due("end(16, 0)", x.end(16, 0), 0);
        due("end(16, 1)", x.end(16, 1), ALL);
        x.grow(2);
        due("end(16, 0)", x.end(16, 0), ALL / 16 * 15);
        due("end(16, 1)", x.end(16, 1), ALL / 16 * 15);
        due("end(255, 0)", x.end(255, 0), ALL / 16 * 15);
    }

    private static void promise10_restsCountAsTheirState() {
        RestBounds x = spent();
        long left = 1L << 20;
        due("rests(0)", x.rests(0), left);
        due("end(1, 0)", x.end(1, 0), x.found(0));
        due("end(1, 1)", x.end(1, 1), x.found(0) + left);
        due("end(3, 0)", x.end(3, 0), ALL);
    }

    // ---- 11: given

    private static void promise11_badSetsAreRefused() {
        for (int set : outside(0, 255)) {
            refusedAnywhere("given(" + set + ", 1, 0)", x -> x.given(set, 1, 0), BAD);
            refusedAnywhere("given(1, " + set + ", 1)", x -> x.given(1, set, 1), BAD);
        }
    }

    private static void promise11_badSidesAreRefused() {
        for (int side : outside(0, 1)) {
            refusedAnywhere("given(1, 3, " + side + ")", x -> x.given(1, 3, side), BAD);
        }
    }

    private static void promise11_withoutAListingItIsRefused() {
        refusedWithoutListing("given(0, 0, 0)", x -> x.given(0, 0, 0), NO);
        refusedWithoutListing("given(255, 255, 1)", x -> x.given(255, 255, 1), NO);
    }

    private static void promise11_givenTheEmptySet() {
        refusedAmidListing("given(255, 0, 0)", x -> x.given(255, 0, 0), 0);
        refusedAmidListing("given(255, 0, 1)", x -> x.given(255, 0, 1), ONE);
        refusedAmidListing("given(0, 0, 1)", x -> x.given(0, 0, 1), ONE);
    }

    private static void promise11_givenWhatCannotBe() {
        RestBounds x = ring(8, 8);
        x.begin(0);
        due("given(4, 4, 0)", x.given(4, 4, 0), 0);
        due("given(4, 4, 1)", x.given(4, 4, 1), ONE);
        due("given(1, 252, 0)", x.given(1, 252, 0), 0);
        due("given(1, 252, 1)", x.given(1, 252, 1), ONE);
    }

    private static void promise11_theLeastIs0IfNothingIsSureYet() {
        RestBounds x = ring(8, 8);
        x.begin(0);
        due("given(1, 3, 0)", x.given(1, 3, 0), 0);
        due("given(1, 3, 1): nothing of the rest is LOW", x.given(1, 3, 1), ONE);
        due("given(1, 1, 0): LOW 0 and HIGH 0 together", x.given(1, 1, 0), 0);
        due("given(1, 1, 1)", x.given(1, 1, 1), ONE);
        due("given(0, 3, 1): HIGH 0 by LOW of both", x.given(0, 3, 1), 0);
        due("given(0, 1, 1): HIGH 0 by LOW 0", x.given(0, 1, 1), ONE);
    }

    private static void promise11_allAndNothing() {
        RestBounds x = spent();
        due("given(255, 255, 0)", x.given(255, 255, 0), ONE);
        due("given(255, 255, 1)", x.given(255, 255, 1), ONE);
        due("given(0, 255, 0)", x.given(0, 255, 0), 0);
        due("given(0, 255, 1)", x.given(0, 255, 1), 0);
    }

    private static void promise11_onlyBothSetsTogetherCount() {
        RestBounds x = walk(outcomes(NONE, 0, 1, 7), new int[][] {{0, 1, 4}, {0, 2, 4}, {0, 3, 8}});
        x.begin(0);
        x.grow(1);
        due("given(129, 3, 0)", x.given(129, 3, 0), ONE / 2);
        due("given(129, 3, 1)", x.given(129, 3, 1), ONE / 2);
        due("given(128, 255, 0): without rounding", x.given(128, 255, 0), ONE / 2);
        due("given(128, 255, 1): without rounding", x.given(128, 255, 1), ONE / 2);
    }

    private static void promise11_roundedDownAndUp() {
        RestBounds x = walk(outcomes(NONE, 0, 1, 2), new int[][] {{0, 1, 1}, {0, 2, 2}, {0, 3, 13}});
        x.begin(0);
        x.grow(1);
        // a third of 2^30 is 357913941 1/3
        due("given(1, 3, 0)", x.given(1, 3, 0), 357913941);
        due("given(1, 3, 1)", x.given(1, 3, 1), 357913942);
        due("given(2, 3, 0)", x.given(2, 3, 0), 715827882);
        due("given(2, 3, 1)", x.given(2, 3, 1), 715827883);
    }

    /** All but one UNIT are FOUND of OUTCOME 0; that one is OPEN at 15, which comes to OUTCOMES 0 and 1. */
    private static RestBounds allButOne() {
        RestBounds x = new RestBounds();
        for (int s = 0; s < 16; s++) {
            x.state(NONE);
        }
        x.state(0);
        x.state(1);
        for (int s = 0; s < 15; s++) {
            x.arrow(s, s + 1, 1);
            x.arrow(s, 16, 15);
        }
        x.arrow(15, 16, 8);
        x.arrow(15, 17, 8);
        x.order(2);
        x.begin(0);
        x.grow(30);
        return x;
    }

    private static void promise11_allButOneUnitIsRoundedDownAndUp() {
        RestBounds x = allButOne();
        for (int rests = 0; rests < 2; rests++) {
            due("found(0)", x.found(0), ALL - 1);
            due("rests(15)", x.rests(15), rests);
            due("given(1, 3, 0)", x.given(1, 3, 0), ONE - 1);
            due("given(1, 3, 1)", x.given(1, 3, 1), ONE);
            due("given(2, 3, 0)", x.given(2, 3, 0), 0);
            due("given(2, 3, 1)", x.given(2, 3, 1), 1);
            due("grow(1)", x.grow(1), 1 - rests);
        }
    }

    /** Of 16 UNITS a are of OUTCOME 0 and b of OUTCOME 1; all other UNITS are of OUTCOME 2. */
    private static RestBounds fewUnits(int a, int b) {
        RestBounds x = new RestBounds();
        for (int s = 0; s < 15; s++) {
            x.state(NONE);
        }
        x.state(2);
        x.state(0);
        x.state(1);
        for (int s = 0; s < 14; s++) {
            x.arrow(s, s + 1, 1);
            x.arrow(s, 15, 15);
        }
        x.arrow(14, 16, a);
        x.arrow(14, 17, b);
        x.arrow(14, 15, 16 - a - b);
        x.order(2);
        x.begin(0);
        due("grow(29)", x.grow(29), 29);
        due("end(1, 0)", x.end(1, 0), a);
        due("end(2, 1)", x.end(2, 1), b);
        return x;
    }

    private static void promise11_ofOneUnitInAll() {
        RestBounds x = fewUnits(0, 1);
        due("given(2, 2, 0): one of one", x.given(2, 2, 0), ONE);
        due("given(2, 2, 1): one of one", x.given(2, 2, 1), ONE);
        due("given(1, 3, 0): none of one", x.given(1, 3, 0), 0);
        due("given(1, 3, 1): none of one", x.given(1, 3, 1), 0);
    }

    private static void promise11_ofThreeUnitsInAll() {
        RestBounds x = fewUnits(1, 2);
        due("given(1, 3, 0)", x.given(1, 3, 0), 357913941);
        due("given(1, 3, 1)", x.given(1, 3, 1), 357913942);
        due("given(2, 3, 0)", x.given(2, 3, 0), 715827882);
        due("given(2, 3, 1)", x.given(2, 3, 1), 715827883);
    }

    // ---- 12: best

    /** Which ORDER is best, by going on in each of them on objects of their own. */
    private static int bestByTrial(Supplier<RestBounds> scene, int set, int n) {
        int best = 0;
        long least = Long.MAX_VALUE;
        for (int kind = 0; kind < 3; kind++) {
            RestBounds x = scene.get();
            x.order(kind);
            x.begin(x.told(3));
            x.grow(n);
            long width = x.end(set, 1) - x.end(set, 0);
            if (width < least) {
                least = width;
                best = kind;
            }
        }
        return best;
    }

    private static void promise12_badSetsAreRefused() {
        for (int set : outside(0, 255)) {
            refusedAnywhere("best(" + set + ", 1)", x -> x.best(set, 1), BAD);
        }
    }

    private static void promise12_badNumbersAreRefused() {
        for (int n : outside(0, 200)) {
            refusedAnywhere("best(1, " + n + ")", x -> x.best(1, n), BAD);
        }
    }

    private static void promise12_withoutAListingItIsRefused() {
        refusedWithoutListing("best(0, 0)", x -> x.best(0, 0), NO);
        refusedWithoutListing("best(255, 200)", x -> x.best(255, 200), NO);
    }

    private static void promise12_zeroTimesAllAreEqual() {
        refusedAmidListing("best(1, 0)", x -> x.best(1, 0), 0);
    }

    private static void promise12_emptyAndFullSetsAreEqualInAll() {
        refusedAmidListing("best(0, 200)", x -> x.best(0, 200), 0);
        refusedAmidListing("best(255, 200)", x -> x.best(255, 200), 0);
    }

    private static void promise12_nothingChanges() {
        for (int n : new int[] {1, 2, 3, 10, 200}) {
            for (Supplier<RestBounds> scene : List.<Supplier<RestBounds>>of(EdgeTest::amid, EdgeTest::spent,
                    EdgeTest::stuck, EdgeTest::endless, EdgeTest::turning)) {
                refused(scene, "best(1, " + n + ")", x -> x.best(1, n), bestByTrial(scene, 1, n));
            }
        }
    }

    /** ORDER 0 is best with 199 goings on, ORDER 1 with 200. */
    private static RestBounds turning() {
        RestBounds x = walk(outcomes(NONE, NONE, NONE, NONE, 0, 1), new int[][] {
            {0, 1, 12}, {0, 5, 4}, {1, 4, 12}, {1, 2, 4}, {2, 4, 9}, {2, 3, 7}, {3, 2, 9}, {3, 0, 7}});
        x.begin(0);
        return x;
    }

    private static void promise12_twoHundredTimes() {
        due("best(1, 199)", turning().best(1, 199), 0);
        due("best(1, 200)", turning().best(1, 200), 1);
        due("by trial, 199", bestByTrial(EdgeTest::turning, 1, 199), 0);
        due("by trial, 200", bestByTrial(EdgeTest::turning, 1, 200), 1);
    }

    /** 0 goes to 1, 2, 3 with the weights; each of these to ENDS 4 and 5 of OUTCOMES 0 and 1. */
    private static RestBounds fan(int a, int b, int c) {
        RestBounds x = walk(outcomes(NONE, NONE, NONE, NONE, 0, 1), new int[][] {{0, 1, a}, {0, 2, b}, {0, 3, c},
            {1, 4, 8}, {1, 5, 8}, {2, 4, 8}, {2, 5, 8}, {3, 4, 8}, {3, 5, 8}});
        x.begin(0);
        return x;
    }

    private static void promise12_ofSeveralTheLeast() {
        due("best(1, 1): all are equal", fan(1, 14, 1).best(1, 1), 0);
        due("best(1, 2): 1 alone takes the most", fan(1, 14, 1).best(1, 2), 1);
        due("best(1, 2): 1 and 2 are equal", fan(1, 1, 14).best(1, 2), 1);
        due("best(1, 2): 0 and 1 are equal", fan(14, 1, 1).best(1, 2), 0);
    }

    private static void promise12_theOrderThatIsDoesNotCount() {
        for (int kind = 0; kind < 3; kind++) {
            RestBounds x = fan(1, 14, 1);
            x.order(kind);
            due("best(1, 1) in ORDER " + kind, x.best(1, 1), 0);
            due("best(1, 2) in ORDER " + kind, x.best(1, 2), 1);
            due("told(4)", x.told(4), kind);
        }
    }

    private static void promise12_itBeginsWhereThisOneBegan() {
        RestBounds x = fan(1, 14, 1);
        x.grow(500);
        due("best(1, 2) without ITEMS", x.best(1, 2), 1);
        x.save(0);
        x.begin(1);
        due("best(1, 2) from 1", x.best(1, 2), 0);
        x.back(0);
        due("best(1, 2) from 0 again", x.best(1, 2), 1);
    }

    private static void promise12_byLawsAndJoinedAsTheyAre() {
        for (int on = 0; on < 2; on++) {
            for (int n = 1; n <= 40; n += 3) {
                int joined = on;
                Supplier<RestBounds> scene = () -> {
                    RestBounds x = turning();
                    x.law(2, 3);
                    x.joined(joined == 1);
                    return x;
                };
                due("best(1, " + n + ")", scene.get().best(1, n), bestByTrial(scene, 1, n));
            }
        }
    }

    // ---- 13: item

    private static void promise13_badWhatsAreRefused() {
        for (int what : outside(0, 1)) {
            refusedAnywhere("item(0, " + what + ")", x -> x.item(0, what), BAD);
            refusedAnywhere("item(-1, " + what + ")", x -> x.item(-1, what), BAD);
        }
    }

    private static void promise13_noListingIsAheadOfNoSuchItem() {
        for (int what = 0; what < 2; what++) {
            int asked = what;
            refusedWithoutListing("item(0, " + what + ")", x -> x.item(0, asked), NO);
            for (int i : outside(0, 59)) {
                refusedWithoutListing("item(" + i + ", " + what + ")", x -> x.item(i, asked), NO);
            }
        }
    }

    private static void promise13_noSuchItemIsRefused() {
        for (int i : outside(0, 59)) {
            refusedAmidListing("item(" + i + ", 0)", x -> x.item(i, 0), BAD);
            refusedAmidListing("item(" + i + ", 1)", x -> x.item(i, 1), BAD);
        }
        refused(EdgeTest::stuck, "item(46, 0)", x -> x.item(46, 0), BAD);
        refused(EdgeTest::spent, "item(0, 0) without ITEMS", x -> x.item(0, 0), BAD);
        refused(EdgeTest::spent, "item(0, 1) without ITEMS", x -> x.item(0, 1), BAD);
    }

    private static void promise13_theFirstAndTheLastItem() {
        RestBounds x = wide(15);
        due("item(0, 0)", x.item(0, 0), 4);
        due("item(0, 1)", x.item(0, 1), 1);
        due("item(45, 0)", x.item(45, 0), 3);
        due("item(45, 1)", x.item(45, 1), 3);
        due("item(46, 0)", x.item(46, 0), BAD);
        x.grow(1);
        due("item(59, 0)", x.item(59, 0), 18);
        due("item(59, 1)", x.item(59, 1), 4);
        due("item(60, 0)", x.item(60, 0), BAD);
    }

    private static void promise13_depth0AndDepth40() {
        RestBounds x = loop(8);
        x.order(2);
        x.begin(0);
        due("item(0, 1)", x.item(0, 1), 0);
        x.grow(80);
        due("item(0, 1)", x.item(0, 1), 40);
        due("item(0, 0)", x.item(0, 0), 0);
    }

    private static void promise13_theyStandAsTheyWereMade() {
        RestBounds x = three(4, 2, 10);
        x.order(1);
        x.grow(1);
        // 3 is gone from the end, its END is made last
        due("item(0, 0)", x.item(0, 0), 1);
        due("item(1, 0)", x.item(1, 0), 2);
        due("item(2, 0)", x.item(2, 0), 4);
        x.grow(2);
        // the END is gone, then 1
        due("item(0, 0)", x.item(0, 0), 2);
        due("item(1, 0)", x.item(1, 0), 4);
        due("item(2, 0)", x.item(2, 0), BAD);
    }

    // ---- 14: units

    private static void promise14_noSuchItemHasNone() {
        for (int i : outside(0, 59)) {
            refusedAnywhere("units(" + i + ")", x -> x.units(i), 0);
        }
        refused(EdgeTest::stuck, "units(46)", x -> x.units(46), 0);
    }

    private static void promise14_withoutAListingThereAreNone() {
        refusedWithoutListing("units(0)", x -> x.units(0), 0);
        refused(EdgeTest::spent, "units(0) without ITEMS", x -> x.units(0), 0);
    }

    private static void promise14_theMostAndTheLeast() {
        RestBounds x = loop(1);
        x.order(2);
        x.begin(0);
        due("units(0)", x.units(0), ALL);
        x.grow(30);
        due("units(0)", x.units(0), 1);
    }

    private static void promise14_theLastOfSixty() {
        RestBounds x = wide(15);
        x.grow(1);
        due("units(44)", x.units(44), ALL >> 12);
        due("units(45): 4 has two", x.units(45), ALL >> 15);
        due("units(59)", x.units(59), ALL >> 16);
        due("units(60)", x.units(60), 0);
    }

    // ---- 15: found

    private static void promise15_noSuchOutcomeIsNothing() {
        for (int o : outside(0, 7)) {
            refusedAnywhere("found(" + o + ")", x -> x.found(o), 0);
        }
    }

    private static void promise15_withoutAListingItIsNothing() {
        for (int outcome = 0; outcome < 8; outcome++) {
            int o = outcome;
            refusedWithoutListing("found(" + o + ")", x -> x.found(o), 0);
        }
    }

    private static void promise15_nothingAndAll() {
        RestBounds x = new RestBounds();
        for (int o = 0; o < 8; o++) {
            x.state(7 - o);
        }
        for (int o = 0; o < 8; o++) {
            x.begin(7 - o);
            due("found(" + o + ") of an OPEN END", x.found(o), 0);
            x.grow(1);
            for (int other = 0; other < 8; other++) {
                due("found(" + other + ")", x.found(other), other == o ? ALL : 0);
            }
        }
    }

    private static void promise15_twoEndsOfOneOutcome() {
        RestBounds x = walk(outcomes(NONE, 7, 7), new int[][] {{0, 1, 5}, {0, 2, 11}});
        x.begin(0);
        x.grow(2);
        due("found(7)", x.found(7), ALL / 16 * 5);
        x.grow(1);
        due("found(7)", x.found(7), ALL);
    }

    // ---- 16: rests

    private static void promise16_noSuchStateHasNone() {
        for (int s : outside(0, 19)) {
            refusedAnywhere("rests(" + s + ")", x -> x.rests(s), 0);
        }
        refused(EdgeTest::spent, "rests(4)", x -> x.rests(4), 0);
        refused(EdgeTest::amid, "rests(5)", x -> x.rests(5), 0);
    }

    private static void promise16_withoutAListingThereAreNone() {
        refusedWithoutListing("rests(0)", x -> x.rests(0), 0);
        RestBounds x = spent();
        x.state(0);
        due("rests(0) when the LISTING is taken away", x.rests(0), 0);
    }

    private static void promise16_anEndHasNone() {
        RestBounds x = spent();
        due("rests(0)", x.rests(0), 1L << 20);
        due("rests(1)", x.rests(1), 0);
        due("rests(2)", x.rests(2), 0);
        due("rests(3)", x.rests(3), 0);
    }

    private static void promise16_allRestsOfALoopOf16() {
        RestBounds x = walk(outcomes(NONE), new int[][] {{0, 0, 16}});
        x.begin(0);
        due("grow(40)", x.grow(40), 40);
        due("rests(0)", x.rests(0), 0);
        due("grow(500)", x.grow(500), 1);
        due("rests(0)", x.rests(0), ALL);
    }

    private static void promise16_theLastState() {
        RestBounds x = new RestBounds();
        for (int s = 0; s < 20; s++) {
            x.state(NONE);
        }
        x.arrow(19, 19, 16);
        x.begin(19);
        x.grow(41);
        due("rests(19)", x.rests(19), ALL);
        due("rests(18)", x.rests(18), 0);
        due("rests(20)", x.rests(20), 0);
    }

    // ---- 17: save

    private static void promise17_badNumbersAreRefused() {
        for (int k : outside(0, 2)) {
            refusedAnywhere("save(" + k + ")", x -> x.save(k), BAD);
        }
    }

    private static void promise17_withoutAListingItIsRefused() {
        for (int each = 0; each < 3; each++) {
            int k = each;
            refusedWithoutListing("save(" + k + ")", x -> x.save(k), NO);
        }
    }

    private static void promise17_itIsHowManyItems() {
        due("save(0) without ITEMS", spent().save(0), 0);
        due("save(2) with 46", stuck().save(2), 46);
        RestBounds x = wide(15);
        x.grow(1);
        due("save(1) with 60", x.save(1), 60);
        x.begin(0);
        due("save(2) with 1", x.save(2), 1);
        due("back(1)", x.back(1), 60);
        due("units(59)", x.units(59), ALL >> 16);
    }

    private static void promise17_itIsInPlaceOfWhatWasOne() {
        RestBounds x = amid();
        x.begin(4);
        due("save(0)", x.save(0), 1);
        due("save(0) again", x.save(0), 1);
        due("back(2)", x.back(2), 2);
        due("told(3)", x.told(3), 0);
        due("back(0)", x.back(0), 1);
        due("told(3)", x.told(3), 4);
        due("units(0)", x.units(0), ALL);
    }

    private static void promise17_theListingStaysAndIsApart() {
        RestBounds x = loop(8);
        x.begin(0);
        x.grow(1);
        due("save(0)", x.save(0), 2);
        due("told(1)", x.told(1), 2);
        due("told(2)", x.told(2), 1);
        x.grow(9);
        due("told(2)", x.told(2), 10);
        due("back(0)", x.back(0), 2);
        due("told(2)", x.told(2), 1);
        due("found(0)", x.found(0), 0);
        due("end(1, 0)", x.end(1, 0), ALL);
    }

    // ---- 18: back

    private static void promise18_badNumbersAreRefused() {
        for (int k : outside(0, 2)) {
            refusedAnywhere("back(" + k + ")", x -> x.back(k), BAD);
        }
    }

    private static void promise18_whereThereIsNoneItIsRefused() {
        for (int each = 0; each < 3; each++) {
            int k = each;
            refusedWithoutListing("back(" + k + ")", x -> x.back(k), NO);
            refused(EdgeTest::spent, "back(" + k + ")", x -> x.back(k), NO);
        }
        refused(EdgeTest::amid, "back(1)", x -> x.back(1), NO);
    }

    private static void promise18_aSaveWithoutItems() {
        RestBounds x = spent();
        x.save(2);
        x.begin(1);
        due("back(2)", x.back(2), 0);
        due("told(3)", x.told(3), 0);
        due("told(2)", x.told(2), 81);
        due("rests(0)", x.rests(0), 1L << 20);
        due("rests(1)", x.rests(1), 0);
        due("end(3, 0)", x.end(3, 0), ALL);
    }

    private static void promise18_theSaveStays() {
        RestBounds x = amid();
        for (int again = 0; again < 3; again++) {
            due("back(0)", x.back(0), 2);
            due("told(2)", x.told(2), 1);
            due("item(0, 0)", x.item(0, 0), 1);
            due("item(1, 0)", x.item(1, 0), 3);
            // D = 12: a third and two thirds of 2^60, of which a UNIT rests
            due("units(0)", x.units(0), ALL / 3);
            due("units(1)", x.units(1), ALL / 3 * 2);
            due("rests(0)", x.rests(0), 1);
            x.grow(500);
            due("told(1)", x.told(1), 0);
        }
    }

    private static void promise18_allOfItIsBack() {
        RestBounds x = walk(outcomes(NONE, 7), new int[][] {{0, 0, 8}, {0, 1, 8}});
        x.begin(0);
        x.grow(5);
        x.save(1);
        x.begin(0);
        x.grow(1);
        due("back(1)", x.back(1), 2);
        due("item(0, 0)", x.item(0, 0), 0);
        due("item(0, 1)", x.item(0, 1), 3);
        due("item(1, 0)", x.item(1, 0), 1);
        due("item(1, 1)", x.item(1, 1), 3);
        due("units(0)", x.units(0), ALL / 8);
        due("units(1)", x.units(1), ALL / 8);
        due("found(7)", x.found(7), ALL / 4 * 3);
        due("end(128, 0)", x.end(128, 0), ALL);
        due("told(2)", x.told(2), 5);
    }

    private static void promise18_orderJoinedAndLawsAreAsTheyAre() {
        RestBounds x = amid();
        x.order(2);
        x.joined(false);
        x.law(0, NONE);
        x.law(2, 1);
        due("back(0)", x.back(0), 2);
        due("told(4)", x.told(4), 2);
        due("joined(false)", x.joined(false), 0);
        due("told(10)", x.told(10), NONE);
        due("told(11)", x.told(11), NONE);
        due("told(12)", x.told(12), 1);
    }

    private static void promise18_behindAStateOrAnArrowThereIsNone() {
        RestBounds x = amid();
        x.state(1);
        due("back(0)", x.back(0), NO);
        due("back(2)", x.back(2), NO);
        x.begin(3);
        due("back(0): a new LISTING does not bring it again", x.back(0), NO);
    }

    // ---- 19: told

    private static void promise19_badWhatsAreRefused() {
        int[] none = {MIN, MIN + 1, MIN + 9, MIN + 10, MIN + 14, -256, -11, -10, -2, -1, 5, 6, 7, 8, 9,
            30, 31, 42, 256, 266, 65536, 65546, MAX - 10, MAX - 9, MAX};
        for (int what : none) {
            refusedAnywhere("told(" + what + ")", x -> x.told(what), BAD);
        }
    }

    private static void promise19_noSuchStateIsRefused() {
        refused(RestBounds::new, "told(10)", x -> x.told(10), BAD);
        refused(EdgeTest::amid, "told(15)", x -> x.told(15), BAD);
        refused(EdgeTest::amid, "told(29)", x -> x.told(29), BAD);
        refused(EdgeTest::stuck, "told(30)", x -> x.told(30), BAD);
    }

    private static void promise19_noneAndTwentyStates() {
        due("told(0)", new RestBounds().told(0), 0);
        due("told(0)", stuck().told(0), 20);
    }

    private static void promise19_noneAndSixtyItems() {
        due("told(1) without a LISTING", withLaws().told(1), 0);
        due("told(1) without ITEMS", spent().told(1), 0);
        RestBounds x = wide(15);
        x.grow(1);
        due("told(1)", x.told(1), 60);
    }

    private static void promise19_howOftenItWentOn() {
        due("told(2) without a LISTING", withLaws().told(2), 0);
        due("told(2)", spent().told(2), 81);
        RestBounds x = stuck();
        x.grow(9);
        due("told(2): what cannot go on does not count", x.told(2), 3);
        x.until(1, 60, 9);
        x.best(1, 9);
        due("told(2)", x.told(2), 3);
    }

    private static void promise19_theStateOfTheBeginning() {
        due("told(3) without a LISTING", withLaws().told(3), NONE);
        RestBounds x = stuck();
        due("told(3)", x.told(3), 0);
        x.begin(19);
        due("told(3)", x.told(3), 19);
        x.begin(20);
        due("told(3)", x.told(3), 19);
    }

    private static void promise19_theLawOfTheFirstAndTheLastState() {
        RestBounds x = new RestBounds();
        for (int s = 0; s < 19; s++) {
            x.state(NONE);
        }
        due("state(-1)", x.state(NONE), 19);
        x.arrow(0, 19, 8);
        x.arrow(0, 1, 8);
        x.arrow(19, 0, 8);
        x.arrow(19, 1, 8);
        x.arrow(18, 18, 8);
        x.arrow(18, 0, 8);
        x.law(0, 19);
        x.law(19, 0);
        x.law(18, 18);
        due("told(10)", x.told(10), 19);
        due("told(29)", x.told(29), 0);
        due("told(28)", x.told(28), 18);
        due("told(11)", x.told(11), NONE);
        due("told(30)", x.told(30), BAD);
    }

    private static void promise19_anEndHasNoLaw() {
        RestBounds x = withLaws();
        due("told(13)", x.told(13), NONE);
        due("told(14)", x.told(14), NONE);
    }
}
