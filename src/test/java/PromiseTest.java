// Each promise of the document in turn: ordinary inputs, the edges that it names, wrong inputs.
// The answers that are due were worked out by hand from the document.
public final class PromiseTest {
    private static final int BAD = -1, NO = -2, FULL = -3, NONE = -1;
    private static final long ALL = 1L << 60;
    private static int wrong = 0;
    private static int promise = 0;

    private static void due(String call, long got, long want) {
        if (got != want) {
            wrong++;
            System.out.println("promise " + promise + ": " + call + " answered " + got + ", due is " + want);
        }
    }

    public static void main(String[] args) {
        promise = 1;
        newObject();
        promise = 2;
        states();
        statesTakeAway();
        promise = 3;
        arrows();
        arrowsKeepTheirOrder();
        arrowsTakeAway();
        promise = 4;
        loops();
        rings();
        lawsAreChangedAndTakenOff();
        promise = 5;
        orders();
        promise = 6;
        joining();
        joiningWithinOneSharing();
        joiningAtSixtyItems();
        joiningOffAndOn();
        promise = 7;
        beginnings();
        promise = 8;
        growing();
        depthForty();
        sixtyItems();
        sharesOfNoUnits();
        lawsShare();
        manyShares();
        promise = 9;
        growingUntil();
        promise = 10;
        ends();
        promise = 11;
        givenShares();
        promise = 12;
        bestOrder();
        promise = 13;
        items();
        promise = 14;
        unitsOfItems();
        promise = 15;
        foundOutcomes();
        promise = 16;
        restsOfStates();
        promise = 17;
        saving();
        promise = 18;
        goingBack();
        promise = 19;
        telling();
        System.out.println(wrong == 0 ? "every promise holds" : wrong + " answers are not as due");
        if (wrong != 0) {
            System.exit(1);
        }
    }

    /** 0 goes on to itself with 8 and to the END 1 (OUTCOME 0) with 8. */
    private static RestBounds halving() {
        RestBounds x = new RestBounds();
        x.state(NONE);
        x.state(0);
        x.arrow(0, 0, 8);
        x.arrow(0, 1, 8);
        return x;
    }

    /** 0 goes on to 1 with 8 and END 2 (OUTCOME 0) with 8, 1 to 0 with 8 and END 3 (OUTCOME 1) with 8. */
    private static RestBounds duel() {
        RestBounds x = new RestBounds();
        x.state(NONE);
        x.state(NONE);
        x.state(0);
        x.state(1);
        x.arrow(0, 1, 8);
        x.arrow(0, 2, 8);
        x.arrow(1, 0, 8);
        x.arrow(1, 3, 8);
        return x;
    }

    /** 0 goes to ENDS 1, 2, 3 (OUTCOMES 0, 1, 2) with 4, 10, 2. */
    private static RestBounds fork() {
        RestBounds x = new RestBounds();
        x.state(NONE);
        x.state(0);
        x.state(1);
        x.state(2);
        x.arrow(0, 1, 4);
        x.arrow(0, 2, 10);
        x.arrow(0, 3, 2);
        return x;
    }

    private static void newObject() {
        RestBounds x = new RestBounds();
        due("told(0)", x.told(0), 0);
        due("told(1)", x.told(1), 0);
        due("told(2)", x.told(2), 0);
        due("told(3)", x.told(3), NONE);
        due("told(4)", x.told(4), 0);
        due("told(10)", x.told(10), BAD);
        due("begin(0)", x.begin(0), BAD);
        due("grow(0)", x.grow(0), NO);
        due("until(0, 0, 0)", x.until(0, 0, 0), NO);
        due("end(255, 1)", x.end(255, 1), 0);
        due("given(1, 1, 1)", x.given(1, 1, 1), NO);
        due("best(1, 1)", x.best(1, 1), NO);
        due("item(0, 0)", x.item(0, 0), NO);
        due("units(0)", x.units(0), 0);
        due("found(0)", x.found(0), 0);
        due("rests(0)", x.rests(0), 0);
        due("save(0)", x.save(0), NO);
        for (int k = 0; k < 3; k++) {
            due("back(" + k + ")", x.back(k), NO);
        }
        due("joined(false)", x.joined(false), 0);
        due("order(0)", x.order(0), 0);
    }

    private static void states() {
        RestBounds x = new RestBounds();
        due("state(-1)", x.state(-1), 0);
        for (int o = 0; o <= 7; o++) {
            due("state(" + o + ")", x.state(o), o + 1);
            due("begin of the END", x.begin(o + 1), 1 << o);
        }
        due("state(8)", x.state(8), BAD);
        due("state(-2)", x.state(-2), BAD);
        due("state(MAX)", x.state(Integer.MAX_VALUE), BAD);
        due("state(MIN)", x.state(Integer.MIN_VALUE), BAD);
        due("told(0)", x.told(0), 9);
        for (int s = 9; s < 20; s++) {
            due("state(3)", x.state(3), s);
        }
        due("begin(19)", x.begin(19), 8);
        due("state(3) when there are 20", x.state(3), FULL);
        due("state(-1) when there are 20", x.state(-1), FULL);
        due("state(8) when there are 20", x.state(8), BAD);
        due("told(0)", x.told(0), 20);
        due("told(3): FULL took nothing away", x.told(3), 19);
    }

    private static void statesTakeAway() {
        RestBounds x = halving();
        x.begin(0);
        x.grow(1);
        x.law(0, 0);
        x.save(0);
        x.save(2);
        x.order(1);
        x.joined(true);
        due("state(8)", x.state(8), BAD);
        due("told(10): BAD took nothing away", x.told(10), 0);
        due("told(1): BAD took nothing away", x.told(1), 2);
        due("state(1)", x.state(1), 2);
        due("told(1)", x.told(1), 0);
        due("told(2)", x.told(2), 0);
        due("told(3)", x.told(3), NONE);
        due("told(10)", x.told(10), NONE);
        due("back(0)", x.back(0), NO);
        due("back(2)", x.back(2), NO);
        due("grow(1)", x.grow(1), NO);
        due("units(0)", x.units(0), 0);
        due("told(4) stays", x.told(4), 1);
        due("joined stays", x.joined(true), 1);
        due("ARROWS stay", x.begin(0), 1);
    }

    private static void arrows() {
        RestBounds x = new RestBounds();
        due("arrow(0, 0, 1) without a state", x.arrow(0, 0, 1), BAD);
        x.state(NONE);
        x.state(NONE);
        x.state(5);
        due("arrow(0, 1, 3)", x.arrow(0, 1, 3), 3);
        due("arrow(0, 0, 2)", x.arrow(0, 0, 2), 5);
        due("arrow(0, 1, 4)", x.arrow(0, 1, 4), 9);
        due("arrow(2, 0, 1) of an END", x.arrow(2, 0, 1), BAD);
        due("arrow(-1, 0, 1)", x.arrow(-1, 0, 1), BAD);
        due("arrow(3, 0, 1)", x.arrow(3, 0, 1), BAD);
        due("arrow(0, -1, 1)", x.arrow(0, -1, 1), BAD);
        due("arrow(0, 3, 1)", x.arrow(0, 3, 1), BAD);
        due("arrow(0, 1, 0)", x.arrow(0, 1, 0), BAD);
        due("arrow(0, 1, -1)", x.arrow(0, 1, -1), BAD);
        due("arrow(0, 1, 17)", x.arrow(0, 1, 17), BAD);
        due("arrow(0, 1, MAX)", x.arrow(0, 1, Integer.MAX_VALUE), BAD);
        due("arrow(MIN, MAX, 1)", x.arrow(Integer.MIN_VALUE, Integer.MAX_VALUE, 1), BAD);
        due("arrow(0, 2, 8)", x.arrow(0, 2, 8), FULL);
        due("arrow(0, 2, 7)", x.arrow(0, 2, 7), 16);
        due("arrow(0, 2, 1)", x.arrow(0, 2, 1), FULL);
        due("arrow(0, 2, 17): BAD is ahead of FULL", x.arrow(0, 2, 17), BAD);
        due("arrow(1, 2, 16)", x.arrow(1, 2, 16), 16);
        due("begin(0)", x.begin(0), 32);
    }

    private static void arrowsKeepTheirOrder() {
        RestBounds x = new RestBounds();
        x.state(NONE);
        x.state(0);
        x.state(1);
        x.state(2);
        x.arrow(0, 3, 1);
        x.arrow(0, 1, 2);
        x.arrow(0, 2, 3);
        x.arrow(0, 1, 10);
        x.begin(0);
        due("grow(1)", x.grow(1), 1);
        int[] place = {3, 1, 2};
        int[] weight = {1, 12, 3};
        for (int i = 0; i < 3; i++) {
            due("item(" + i + ", 0)", x.item(i, 0), place[i]);
            due("units(" + i + ")", x.units(i), (ALL >> 4) * weight[i]);
        }
        due("told(1)", x.told(1), 3);
    }

    private static void arrowsTakeAway() {
        RestBounds x = halving();
        x.state(NONE);
        x.begin(0);
        x.law(0, 0);
        x.save(1);
        due("arrow(0, 1, 1)", x.arrow(0, 1, 1), FULL);
        due("arrow(1, 1, 1)", x.arrow(1, 1, 1), BAD);
        due("told(10): BAD and FULL took nothing away", x.told(10), 0);
        due("told(3): BAD and FULL took nothing away", x.told(3), 0);
        due("back(1): BAD and FULL took nothing away", x.back(1), 1);
        due("arrow(2, 1, 1)", x.arrow(2, 1, 1), 1);
        due("told(10)", x.told(10), NONE);
        due("told(3)", x.told(3), NONE);
        due("back(1)", x.back(1), NO);
    }

    private static void loops() {
        RestBounds x = new RestBounds();
        due("law(0, 0) without a state", x.law(0, 0), BAD);
        x.state(NONE);
        x.state(0);
        x.state(NONE);
        x.state(NONE);
        x.arrow(0, 0, 15);
        x.arrow(2, 2, 16);
        x.arrow(3, 1, 16);
        due("law(0, 0) not WHOLE", x.law(0, 0), NO);
        due("law(0, -1) not WHOLE", x.law(0, NONE), 1);
        x.arrow(0, 1, 1);
        due("law(0, 0)", x.law(0, 0), 1);
        due("told(10)", x.told(10), 0);
        due("law(2, 2) with 16", x.law(2, 2), NO);
        due("law(3, 3) without the ARROW", x.law(3, 3), NO);
        due("told(12)", x.told(12), NONE);
        due("law(1, 1) of an END", x.law(1, 1), BAD);
        due("law(1, -1) of an END", x.law(1, NONE), BAD);
        due("law(-1, -1)", x.law(-1, -1), BAD);
        due("law(4, 4)", x.law(4, 4), BAD);
        due("law(0, 4)", x.law(0, 4), BAD);
        due("law(0, -2)", x.law(0, -2), BAD);
        due("law(MIN, MAX)", x.law(Integer.MIN_VALUE, Integer.MAX_VALUE), BAD);
        due("law(0, MAX)", x.law(0, Integer.MAX_VALUE), BAD);
        due("told(10) stays", x.told(10), 0);
    }

    private static void rings() {
        RestBounds x = new RestBounds();
        for (int s = 0; s < 9; s++) {
            x.state(NONE);
        }
        x.state(0);
        x.arrow(0, 1, 16);
        x.arrow(1, 0, 15);
        due("law(0, 1) when 1 is not WHOLE", x.law(0, 1), NO);
        due("law(1, 0) when 1 is not WHOLE", x.law(1, 0), NO);
        x.arrow(1, 9, 1);
        due("law(0, 1) with 16 and 15", x.law(0, 1), 1);
        due("law(1, 0) with 15 and 16", x.law(1, 0), 1);
        due("told(10)", x.told(10), 1);
        due("told(11)", x.told(11), 0);
        x.arrow(2, 3, 16);
        x.arrow(3, 2, 16);
        due("law(2, 3) with 16 and 16", x.law(2, 3), NO);
        x.arrow(4, 5, 8);
        x.arrow(4, 4, 8);
        x.arrow(5, 4, 8);
        x.arrow(5, 9, 8);
        due("law(4, 5) when 4 has an ARROW to itself", x.law(4, 5), NO);
        due("law(5, 4) when 4 has an ARROW to itself", x.law(5, 4), NO);
        x.arrow(6, 7, 8);
        x.arrow(6, 9, 8);
        x.arrow(7, 9, 16);
        due("law(6, 7) when 7 has none to 6", x.law(6, 7), NO);
        due("law(7, 6) when 7 has none to 6", x.law(7, 6), NO);
        due("law(6, 9) with an END", x.law(6, 9), NO);
        due("law(9, 6) of an END", x.law(9, 6), BAD);
        due("law(6, 0) without an ARROW", x.law(6, 0), NO);
        due("told(16)", x.told(16), NONE);
    }

    private static void lawsAreChangedAndTakenOff() {
        RestBounds x = duel();
        x.begin(0);
        x.save(0);
        due("law(0, 1)", x.law(0, 1), 1);
        due("told(1): a LAW leaves the LISTING", x.told(1), 1);
        due("back(0): a LAW leaves SAVES", x.back(0), 1);
        due("told(10): SAVES have no LAWS", x.told(10), 1);
        due("law(0, 0)", x.law(0, 0), NO);
        due("told(10): NO leaves the LAW", x.told(10), 1);
        due("grow(1)", x.grow(1), 1);
        due("item(0, 0) by the LAW", x.item(0, 0), 2);
        due("item(1, 0) by the LAW", x.item(1, 0), 3);
        x.back(0);
        due("law(0, -1)", x.law(0, NONE), 1);
        due("told(10)", x.told(10), NONE);
        due("grow(1)", x.grow(1), 1);
        due("item(0, 0) without a LAW", x.item(0, 0), 1);
        due("item(1, 0) without a LAW", x.item(1, 0), 2);
    }

    private static void orders() {
        RestBounds x = new RestBounds();
        due("order(2)", x.order(2), 0);
        due("order(1)", x.order(1), 2);
        due("order(3)", x.order(3), BAD);
        due("order(-1)", x.order(-1), BAD);
        due("order(MAX)", x.order(Integer.MAX_VALUE), BAD);
        due("order(MIN)", x.order(Integer.MIN_VALUE), BAD);
        due("order(0)", x.order(0), 1);
        due("told(4)", x.told(4), 0);
        // 0 goes to 1, 2 and 3 with 4, 6 and 6; each of these goes to the END 4.
        for (int kind = 0; kind < 3; kind++) {
            RestBounds y = new RestBounds();
            for (int s = 0; s < 4; s++) {
                y.state(NONE);
            }
            y.state(0);
            y.arrow(0, 1, 4);
            y.arrow(0, 2, 6);
            y.arrow(0, 3, 6);
            y.arrow(1, 4, 16);
            y.arrow(2, 4, 16);
            y.arrow(3, 4, 16);
            y.begin(0);
            y.grow(1);
            y.order(kind);
            y.grow(1);
            int[] first = {2, 1, 1};
            int[] second = {3, 3, 2};
            due("item(0, 0) in ORDER " + kind, y.item(0, 0), first[kind]);
            due("item(1, 0) in ORDER " + kind, y.item(1, 0), second[kind]);
            due("item(2, 0) in ORDER " + kind, y.item(2, 0), 4);
            y.grow(1);
            // ORDER 0 takes 2 (DEPTH 1), ORDER 1 takes 3 (the first of 6 and 6), ORDER 2 the END.
            int[][] then = {{3, 4, 4}, {1, 4, 4}, {1, 2, BAD}};
            for (int i = 0; i < 3; i++) {
                due("item(" + i + ", 0) in ORDER " + kind, y.item(i, 0), then[kind][i]);
            }
        }
    }

    private static void joining() {
        // 0 goes to 1 and 2 with 8 each; both go to the END 3 with 4 and to the END 4 with 12.
        RestBounds x = new RestBounds();
        for (int s = 0; s < 3; s++) {
            x.state(NONE);
        }
        x.state(0);
        x.state(1);
        x.arrow(0, 1, 8);
        x.arrow(0, 2, 8);
        for (int s = 1; s < 3; s++) {
            x.arrow(s, 3, 4);
            x.arrow(s, 4, 12);
        }
        x.begin(0);
        due("grow(3)", x.grow(3), 3);
        due("told(1) with JOINED off", x.told(1), 4);
        due("joined(true)", x.joined(true), 0);
        due("joined(true)", x.joined(true), 1);
        due("told(1): ITEMS that are there are not joined", x.told(1), 4);
        x.begin(0);
        due("grow(3)", x.grow(3), 3);
        due("told(1) with JOINED on", x.told(1), 2);
        due("item(0, 0)", x.item(0, 0), 3);
        due("item(1, 0)", x.item(1, 0), 4);
        due("units(0)", x.units(0), ALL / 4);
        due("units(1)", x.units(1), ALL / 4 * 3);
        due("joined(false)", x.joined(false), 1);
        due("joined(false)", x.joined(false), 0);
        x.begin(0);
        x.grow(3);
        due("told(1) with JOINED off again", x.told(1), 4);
        due("units(2)", x.units(2), ALL / 8);
        joiningTellsDepthsApart();
    }

    private static void joiningTellsDepthsApart() {
        RestBounds x = halving();
        x.joined(true);
        x.begin(0);
        due("grow(1)", x.grow(1), 1);
        due("grow(1)", x.grow(1), 1);
        // the END of DEPTH 1 is ahead of what is made at DEPTH 2
        due("told(1)", x.told(1), 3);
        due("item(0, 1)", x.item(0, 1), 1);
        due("item(2, 0)", x.item(2, 0), 1);
        due("item(2, 1)", x.item(2, 1), 2);
    }

    /** Both goers on lead to one END; at DEPTH 39 the RING's two SHARES have one DEPTH, 40. */
    private static RestBounds deepPair() {
        RestBounds x = new RestBounds();
        x.state(NONE);
        x.state(NONE);
        x.state(0);
        x.arrow(0, 1, 8);
        x.arrow(0, 2, 8);
        x.arrow(1, 0, 8);
        x.arrow(1, 2, 8);
        x.order(2);
        x.begin(0);
        x.grow(78);
        return x;
    }

    private static void joiningWithinOneSharing() {
        for (int on = 0; on < 2; on++) {
            RestBounds x = deepPair();
            due("told(1)", x.told(1), 1);
            due("item(0, 0)", x.item(0, 0), 1);
            due("item(0, 1)", x.item(0, 1), 39);
            due("units(0)", x.units(0), 1L << 21);
            due("law(1, 0)", x.law(1, 0), 1);
            x.joined(on == 1);
            due("grow(1)", x.grow(1), 1);
            due("told(1)", x.told(1), on == 1 ? 1 : 2);
            due("units(0)", x.units(0), on == 1 ? 2097151 : 1398101);
            due("units(1)", x.units(1), on == 1 ? 0 : 699050);
            due("item(0, 1)", x.item(0, 1), 40);
            due("item(1, 1)", x.item(1, 1), on == 1 ? BAD : 40);
            due("rests(1)", x.rests(1), 1);
        }
    }

    /** At DEPTH 39, with so many ITEMS, a RING's four SHARES are two ITEMS if they are joined. */
    private static RestBounds deepAndWide(int items) {
        RestBounds x = new RestBounds();
        x.state(NONE);
        x.state(NONE);
        x.state(0);
        x.state(1);
        for (int s = 0; s < 2; s++) {
            x.arrow(s, 2, 4);
            x.arrow(s, 3, 4);
            x.arrow(s, 1 - s, 8);
        }
        x.order(2);
        x.begin(0);
        x.grow(20);
        x.order(0);
        x.grow(79 - items);
        x.order(2);
        x.grow(19);
        x.law(1, 0);
        return x;
    }

    private static void joiningAtSixtyItems() {
        RestBounds x = deepAndWide(59);
        due("told(1)", x.told(1), 59);
        due("item(58, 0)", x.item(58, 0), 1);
        due("item(58, 1)", x.item(58, 1), 39);
        due("grow(1) with JOINED off", x.grow(1), 0);
        x.joined(true);
        due("grow(1) with JOINED on", x.grow(1), 1);
        due("told(1)", x.told(1), 60);
        due("item(58, 0)", x.item(58, 0), 2);
        due("item(59, 0)", x.item(59, 0), 3);
        due("units(58)", x.units(58), 1048575);
        due("units(59)", x.units(59), 1048575);
        due("rests(1)", x.rests(1), 2);
        x = deepAndWide(60);
        x.joined(true);
        due("told(1)", x.told(1), 60);
        due("grow(1): 61 with JOINED on", x.grow(1), 0);
        due("told(1)", x.told(1), 60);
        x = deepAndWide(57);
        due("told(1)", x.told(1), 57);
        due("grow(1): 60 with JOINED off", x.grow(1), 1);
        due("told(1)", x.told(1), 60);
    }

    private static void joiningOffAndOn() {
        // ITEMS of one state and DEPTH that are there already: what is joined comes to the first one.
        RestBounds x = new RestBounds();
        for (int s = 0; s < 4; s++) {
            x.state(NONE);
        }
        x.state(0);
        x.arrow(0, 1, 4);
        x.arrow(0, 2, 4);
        x.arrow(0, 3, 8);
        for (int s = 1; s < 4; s++) {
            x.arrow(s, 4, 16);
        }
        x.begin(0);
        x.grow(3);
        due("told(1)", x.told(1), 3);
        x.joined(true);
        due("grow(1)", x.grow(1), 1);
        due("told(1)", x.told(1), 2);
        due("units(0)", x.units(0), ALL / 4 * 3);
        due("units(1)", x.units(1), ALL / 4);
    }

    private static void beginnings() {
        RestBounds x = fork();
        due("begin(-1)", x.begin(-1), BAD);
        due("begin(4)", x.begin(4), BAD);
        due("begin(MIN)", x.begin(Integer.MIN_VALUE), BAD);
        due("begin(MAX)", x.begin(Integer.MAX_VALUE), BAD);
        due("told(3)", x.told(3), NONE);
        due("begin(0)", x.begin(0), 7);
        due("told(3)", x.told(3), 0);
        due("units(0)", x.units(0), ALL);
        due("item(0, 0)", x.item(0, 0), 0);
        due("item(0, 1)", x.item(0, 1), 0);
        due("begin(2) at an END", x.begin(2), 2);
        due("told(3)", x.told(3), 2);
        due("grow(5)", x.grow(5), 1);
        due("found(1)", x.found(1), ALL);
        x.save(0);
        due("begin(9)", x.begin(9), BAD);
        due("told(2): BAD leaves the LISTING", x.told(2), 1);
        due("begin(3)", x.begin(3), 4);
        due("told(2) anew", x.told(2), 0);
        due("found(1) anew", x.found(1), 0);
        due("back(0): SAVES stay", x.back(0), 0);
        beginningsThatAreNotWhole();
        beginningsKeepLaws();
        beginningsBeforeState0();
    }

    private static void beginningsBeforeState0() {
        RestBounds x = new RestBounds();
        x.state(NONE);
        x.state(NONE);
        x.state(4);
        x.arrow(1, 0, 1);
        x.arrow(1, 2, 15);
        due("begin(1) when 0 is not WHOLE", x.begin(1), NO);
        x.arrow(0, 0, 16);
        due("begin(1)", x.begin(1), 16);
        due("end(16, 0): 0 comes to no END", x.end(16, 0), 0);
        x = new RestBounds();
        x.state(4);
        x.state(NONE);
        x.arrow(1, 0, 16);
        due("begin(1): the END is 0", x.begin(1), 16);
    }

    private static void beginningsThatAreNotWhole() {
        RestBounds x = new RestBounds();
        for (int s = 0; s < 4; s++) {
            x.state(NONE);
        }
        x.state(6);
        x.arrow(0, 1, 16);
        x.arrow(1, 2, 16);
        x.arrow(2, 4, 15);
        due("begin(0) when one far off is not WHOLE", x.begin(0), NO);
        due("begin(2) when it is not WHOLE", x.begin(2), NO);
        due("begin(3) without ARROWS", x.begin(3), NO);
        due("begin(4)", x.begin(4), 64);
        due("begin(0)", x.begin(0), NO);
        due("told(3): NO leaves the LISTING", x.told(3), 4);
        x.arrow(2, 2, 1);
        due("begin(0): 3 is not come to", x.begin(0), 64);
        x.arrow(3, 3, 16);
        due("begin(3): no END is come to", x.begin(3), 0);
    }

    private static void beginningsKeepLaws() {
        RestBounds x = halving();
        x.law(0, 0);
        x.begin(0);
        due("told(10): LAWS stay", x.told(10), 0);
        x.grow(9);
        due("told(2) by the LOOP", x.told(2), 2);
    }

    private static void growing() {
        RestBounds x = halving();
        due("grow(1) without a LISTING", x.grow(1), NO);
        due("grow(501) without a LISTING", x.grow(501), BAD);
        x.begin(0);
        due("grow(-1)", x.grow(-1), BAD);
        due("grow(501)", x.grow(501), BAD);
        due("grow(MAX)", x.grow(Integer.MAX_VALUE), BAD);
        due("grow(MIN)", x.grow(Integer.MIN_VALUE), BAD);
        due("grow(0)", x.grow(0), 0);
        due("told(2)", x.told(2), 0);
        due("grow(1)", x.grow(1), 1);
        due("units(0)", x.units(0), ALL / 2);
        due("units(1)", x.units(1), ALL / 2);
        due("grow(1)", x.grow(1), 1);
        due("item(0, 0): the END is of the least DEPTH", x.item(0, 0), 1);
        due("grow(1)", x.grow(1), 1);
        due("found(0)", x.found(0), ALL / 2);
        due("grow(500)", x.grow(500), 78);
        due("grow(500) without ITEMS", x.grow(500), 0);
        due("told(2)", x.told(2), 81);
    }

    private static void depthForty() {
        RestBounds x = halving();
        x.begin(0);
        due("grow(80)", x.grow(80), 80);
        // 40 times 0 and 39 times the END of a lesser DEPTH, and then 0 at DEPTH 40
        due("told(1)", x.told(1), 1);
        due("item(0, 0)", x.item(0, 0), 1);
        due("item(0, 1)", x.item(0, 1), 40);
        due("rests(0)", x.rests(0), 1L << 20);
        due("grow(9)", x.grow(9), 1);
        due("found(0): an END of DEPTH 40 is FOUND", x.found(0), ALL - (1L << 20));
    }

    /** 0, 1, 2, 3 follow one another, each with one ARROW to each END, 3 with so many. */
    private static RestBounds wide(int last) {
        RestBounds x = new RestBounds();
        for (int s = 0; s < 4; s++) {
            x.state(NONE);
        }
        for (int s = 4; s < 20; s++) {
            x.state(s % 8);
        }
        for (int s = 0; s < 3; s++) {
            for (int t = 4; t < 19; t++) {
                x.arrow(s, t, 1);
            }
            x.arrow(s, s + 1, 1);
        }
        for (int t = 4; t < 4 + last; t++) {
            x.arrow(3, t, 1);
        }
        if (last < 16) {
            x.arrow(3, 4, 16 - last);
        }
        x.order(2);
        x.begin(0);
        return x;
    }

    private static void sixtyItems() {
        RestBounds x = wide(15);
        due("grow(3)", x.grow(3), 3);
        due("told(1)", x.told(1), 46);
        due("grow(1): 60 ITEMS are not too many", x.grow(1), 1);
        due("told(1)", x.told(1), 60);
        due("item(59, 1)", x.item(59, 1), 4);
        due("item(60, 1)", x.item(60, 1), BAD);
        due("grow(500)", x.grow(500), 60);
        x = wide(16);
        due("grow(9): 61 ITEMS are too many", x.grow(9), 3);
        due("told(1)", x.told(1), 46);
        due("told(2)", x.told(2), 3);
        due("item(45, 0): it stays", x.item(45, 0), 3);
        due("units(45)", x.units(45), ALL >> 12);
        due("grow(9): it still cannot", x.grow(9), 0);
        x.order(0);
        due("grow(1): another ORDER takes another", x.grow(1), 1);
        due("told(1)", x.told(1), 45);
        x.order(2);
        due("grow(1): now there is room", x.grow(1), 1);
        due("told(1)", x.told(1), 60);
    }

    private static void sharesOfNoUnits() {
        // 0 goes to itself with 1, so that at DEPTH 15 it has one UNIT, of which no SHARE gets any.
        RestBounds x = new RestBounds();
        x.state(NONE);
        x.state(0);
        x.arrow(0, 1, 15);
        x.arrow(0, 0, 1);
        x.order(2);
        x.begin(0);
        due("grow(15)", x.grow(15), 15);
        due("told(1)", x.told(1), 16);
        due("units(15)", x.units(15), 1);
        due("grow(1)", x.grow(1), 1);
        due("told(1)", x.told(1), 15);
        due("rests(0)", x.rests(0), 1);
        due("grow(500)", x.grow(500), 15);
        due("found(0)", x.found(0), ALL - 1);
    }

    private static void lawsShare() {
        // a LOOP with a = 9: the others share by 7
        RestBounds x = new RestBounds();
        x.state(NONE);
        x.state(0);
        x.state(1);
        x.arrow(0, 1, 3);
        x.arrow(0, 0, 9);
        x.arrow(0, 2, 4);
        x.law(0, 0);
        x.begin(0);
        due("grow(1)", x.grow(1), 1);
        due("told(1)", x.told(1), 2);
        due("units(0)", x.units(0), 494109216260077275L);
        due("units(1)", x.units(1), 658812288346769700L);
        due("item(0, 1)", x.item(0, 1), 1);
        due("item(1, 1)", x.item(1, 1), 1);
        due("rests(0)", x.rests(0), 1);
        // a RING with a = 16, b = 15: 0's own SHARES are none, 1's one has w = 16, D = 16
        x = new RestBounds();
        x.state(NONE);
        x.state(NONE);
        x.state(0);
        x.arrow(0, 1, 16);
        x.arrow(1, 0, 15);
        x.arrow(1, 2, 1);
        x.law(0, 1);
        x.begin(0);
        due("grow(1)", x.grow(1), 1);
        due("told(1)", x.told(1), 1);
        due("item(0, 0)", x.item(0, 0), 2);
        due("item(0, 1)", x.item(0, 1), 2);
        due("units(0)", x.units(0), ALL);
    }

    /** A RING of 0 and 1, each with 15 other ARROWS to ENDS 2 .. 16 and 5 .. 19. */
    private static void manyShares() {
        RestBounds x = new RestBounds();
        x.state(NONE);
        x.state(NONE);
        for (int s = 2; s < 20; s++) {
            x.state(s % 8);
        }
        x.arrow(0, 1, 1);
        x.arrow(1, 0, 1);
        for (int i = 0; i < 15; i++) {
            x.arrow(0, 2 + i, 1);
            x.arrow(1, 5 + i, 1);
        }
        due("law(0, 1)", x.law(0, 1), 1);
        x.begin(0);
        due("grow(1)", x.grow(1), 1);
        due("told(1)", x.told(1), 30);
        for (int i = 0; i < 15; i++) {
            // w = 16 and 1, D = 255
            due("item(" + i + ", 0)", x.item(i, 0), 2 + i);
            due("item(" + i + ", 1)", x.item(i, 1), 1);
            due("units(" + i + ")", x.units(i), 72340172838076673L);
            due("item(15 + " + i + ", 0)", x.item(15 + i, 0), 5 + i);
            due("item(15 + " + i + ", 1)", x.item(15 + i, 1), 2);
            due("units(15 + " + i + ")", x.units(15 + i), 4521260802379792L);
        }
        due("rests(0)", x.rests(0), 1);
    }

    private static void growingUntil() {
        RestBounds x = duel();
        due("until(1, 1, 1) without a LISTING", x.until(1, 1, 1), NO);
        due("until(256, 1, 1) without a LISTING", x.until(256, 1, 1), BAD);
        x.begin(0);
        due("until(256, 1, 1)", x.until(256, 1, 1), BAD);
        due("until(-1, 1, 1)", x.until(-1, 1, 1), BAD);
        due("until(1, -1, 1)", x.until(1, -1, 1), BAD);
        due("until(1, 61, 1)", x.until(1, 61, 1), BAD);
        due("until(1, 1, -1)", x.until(1, 1, -1), BAD);
        due("until(1, 1, 501)", x.until(1, 1, 501), BAD);
        due("told(2)", x.told(2), 0);
        due("until(1, 0, 500): 2^60 is narrow enough", x.until(1, 0, 500), 0);
        due("until(3, 60, 500): SURE to end in both", x.until(3, 60, 500), 0);
        due("until(0, 60, 500): of no OUTCOME", x.until(0, 60, 500), 0);
        due("until(1, 1, 0)", x.until(1, 1, 0), 0);
        due("until(1, 1, 500)", x.until(1, 1, 500), 1);
        due("until(1, 1, 500) again", x.until(1, 1, 500), 0);
        // 1 is taken (DEPTH 1), which halves the WIDTH; the END takes a turn of its own later
        due("until(1, 2, 500)", x.until(1, 2, 500), 1);
        due("until(1, 3, 1)", x.until(1, 3, 1), 1);
        due("until(1, 3, 500)", x.until(1, 3, 500), 1);
        due("end(1, 1)", x.end(1, 1) - x.end(1, 0), ALL / 8);
        due("until(1, 60, 500): till there is no ITEM", x.until(1, 60, 500), 77);
        due("told(2)", x.told(2), 81);
        due("until(1, 40, 500)", x.until(1, 40, 500), 0);
        x = wide(16);
        due("until(1, 60, 500) until it cannot", x.until(1, 60, 500), 3);
    }

    private static void ends() {
        RestBounds x = fork();
        due("end(1, 0) without a LISTING", x.end(1, 0), 0);
        x.begin(0);
        due("end(-1, 1)", x.end(-1, 1), 0);
        due("end(256, 1)", x.end(256, 1), 0);
        due("end(7, 2)", x.end(7, 2), 0);
        due("end(7, -1)", x.end(7, -1), 0);
        due("end(7, 0): REACH is within", x.end(7, 0), ALL);
        due("end(255, 0)", x.end(255, 0), ALL);
        due("end(3, 0)", x.end(3, 0), 0);
        due("end(3, 1)", x.end(3, 1), ALL);
        due("end(8, 1)", x.end(8, 1), 0);
        due("end(0, 0)", x.end(0, 0), 0);
        due("end(0, 1)", x.end(0, 1), 0);
        x.grow(1);
        due("end(5, 0): OPEN ENDS", x.end(5, 0), ALL / 16 * 6);
        due("end(5, 1): OPEN ENDS", x.end(5, 1), ALL / 16 * 6);
        x.grow(2);
        due("end(5, 0): FOUND and OPEN", x.end(5, 0), ALL / 16 * 6);
        due("end(2, 1)", x.end(2, 1), ALL / 16 * 10);
        endsThatAreNotSure();
        endsOfRests();
    }

    private static void endsThatAreNotSure() {
        // 0 goes to the END 1 with 8 and to 2 with 8, which comes to no END.
        RestBounds x = new RestBounds();
        x.state(NONE);
        x.state(0);
        x.state(NONE);
        x.arrow(0, 1, 8);
        x.arrow(0, 2, 8);
        x.arrow(2, 2, 16);
        due("begin(0)", x.begin(0), 1);
        due("end(1, 0): 0 is not SURE", x.end(1, 0), 0);
        due("end(1, 1)", x.end(1, 1), ALL);
        x.grow(1);
        due("end(1, 0)", x.end(1, 0), ALL / 2);
        due("end(1, 1)", x.end(1, 1), ALL / 2);
        due("end(255, 0): 2 is not SURE", x.end(255, 0), ALL / 2);
        due("end(255, 1): 2 has no REACH", x.end(255, 1), ALL / 2);
        due("end(0, 0)", x.end(0, 0), 0);
    }

    private static void endsOfRests() {
        RestBounds x = halving();
        x.begin(0);
        x.grow(500);
        due("found(0)", x.found(0), ALL - (1L << 20));
        due("end(1, 0): RESTS of a SURE state", x.end(1, 0), ALL);
        due("end(1, 1)", x.end(1, 1), ALL);
        x = duel();
        x.begin(0);
        x.grow(500);
        long left = 1L << 20;
        due("rests(0)", x.rests(0), left);
        due("end(1, 0)", x.end(1, 0), x.found(0));
        due("end(1, 1)", x.end(1, 1), x.found(0) + left);
        due("end(2, 1)", x.end(2, 1), x.found(1) + left);
        due("end(3, 0)", x.end(3, 0), ALL);
    }

    private static void givenShares() {
        RestBounds x = fork();
        int one = 1 << 30;
        due("given(1, 1, 0) without a LISTING", x.given(1, 1, 0), NO);
        due("given(256, 1, 0) without a LISTING", x.given(256, 1, 0), BAD);
        x.begin(0);
        due("given(-1, 1, 0)", x.given(-1, 1, 0), BAD);
        due("given(256, 1, 0)", x.given(256, 1, 0), BAD);
        due("given(1, -1, 0)", x.given(1, -1, 0), BAD);
        due("given(1, 256, 0)", x.given(1, 256, 0), BAD);
        due("given(1, 1, 2)", x.given(1, 1, 2), BAD);
        due("given(1, 1, -1)", x.given(1, 1, -1), BAD);
        due("given(1, 3, 0)", x.given(1, 3, 0), 0);
        due("given(1, 3, 1)", x.given(1, 3, 1), one);
        x.grow(1);
        // of OUTCOMES 0, 1, 2: 4, 10, 2
        due("given(1, 5, 0)", x.given(1, 5, 0), 715827882);
        due("given(1, 5, 1)", x.given(1, 5, 1), 715827883);
        due("given(1, 3, 0)", x.given(1, 3, 0), 306783378);
        due("given(1, 3, 1)", x.given(1, 3, 1), 306783379);
        due("given(3, 5, 0): only what is in both counts", x.given(3, 5, 0), 715827882);
        due("given(1, 7, 0)", x.given(1, 7, 0), one / 4);
        due("given(1, 7, 1)", x.given(1, 7, 1), one / 4);
        due("given(7, 3, 0)", x.given(7, 3, 0), one);
        due("given(7, 3, 1)", x.given(7, 3, 1), one);
        due("given(1, 2, 0)", x.given(1, 2, 0), 0);
        due("given(1, 2, 1)", x.given(1, 2, 1), 0);
        due("given(1, 0, 0)", x.given(1, 0, 0), 0);
        due("given(1, 0, 1)", x.given(1, 0, 1), one);
        due("given(8, 8, 0)", x.given(8, 8, 0), 0);
        due("given(8, 8, 1)", x.given(8, 8, 1), one);
        due("given(0, 8, 1)", x.given(0, 8, 1), one);
        // half is OPEN at the state 1: LOW of 0 is 8, HIGH 16; LOW of 1 is 0, HIGH 8
        x = duel();
        x.begin(0);
        x.grow(1);
        due("given(1, 3, 0)", x.given(1, 3, 0), one / 2);
        due("given(1, 3, 1)", x.given(1, 3, 1), one);
        due("given(2, 3, 0)", x.given(2, 3, 0), 0);
        due("given(2, 3, 1)", x.given(2, 3, 1), one / 2);
    }

    private static void bestOrder() {
        RestBounds x = duel();
        due("best(1, 1) without a LISTING", x.best(1, 1), NO);
        due("best(256, 1) without a LISTING", x.best(256, 1), BAD);
        x.begin(0);
        due("best(-1, 1)", x.best(-1, 1), BAD);
        due("best(256, 1)", x.best(256, 1), BAD);
        due("best(1, -1)", x.best(1, -1), BAD);
        due("best(1, 201)", x.best(1, 201), BAD);
        due("best(1, 0)", x.best(1, 0), 0);
        due("best(1, 200)", x.best(1, 200), 0);
        due("told(2): nothing changes", x.told(2), 0);
        bestIsByUnits();
        bestIsTheLast();
    }

    /** 0 goes to 1, 2, 3 with 1, 14, 1; each of these goes to ENDS 4, 5 of OUTCOMES 0, 1. */
    private static void bestIsByUnits() {
        RestBounds x = new RestBounds();
        for (int s = 0; s < 4; s++) {
            x.state(NONE);
        }
        x.state(0);
        x.state(1);
        x.arrow(0, 1, 1);
        x.arrow(0, 2, 14);
        x.arrow(0, 3, 1);
        for (int s = 1; s < 4; s++) {
            x.arrow(s, 4, 8);
            x.arrow(s, 5, 8);
        }
        x.begin(0);
        due("best(1, 1)", x.best(1, 1), 0);
        due("best(1, 2)", x.best(1, 2), 1);
        due("best(3, 2): no WIDTH in any", x.best(3, 2), 0);
        x.grow(1);
        x.order(2);
        x.joined(true);
        x.save(0);
        due("best(1, 2): as from the beginning", x.best(1, 2), 1);
        due("told(1): nothing changes", x.told(1), 3);
        due("told(2): nothing changes", x.told(2), 1);
        due("told(4): nothing changes", x.told(4), 2);
        due("joined: nothing changes", x.joined(true), 1);
        due("units(1): nothing changes", x.units(1), ALL / 16 * 14);
        due("back(0): nothing changes", x.back(0), 3);
    }

    /** 0 goes to 1, which first goes to 5, and to 2, which goes to ENDS at once. */
    private static void bestIsTheLast() {
        RestBounds x = new RestBounds();
        for (int s = 0; s < 3; s++) {
            x.state(NONE);
        }
        x.state(0);
        x.state(1);
        x.state(NONE);
        x.arrow(0, 1, 8);
        x.arrow(0, 2, 8);
        x.arrow(1, 5, 16);
        x.arrow(2, 3, 8);
        x.arrow(2, 4, 8);
        x.arrow(5, 3, 8);
        x.arrow(5, 4, 8);
        x.begin(0);
        due("best(1, 2)", x.best(1, 2), 2);
        due("best(1, 1)", x.best(1, 1), 0);
        due("best(1, 3)", x.best(1, 3), 0);
        // a RING or a LOOP that is told later counts too
        RestBounds y = duel();
        y.begin(0);
        y.law(0, 1);
        y.grow(1);
        due("best(1, 1) by a LAW", y.best(1, 1), 0);
        due("told(1): nothing changes", y.told(1), 2);
    }

    private static void items() {
        RestBounds x = fork();
        due("item(0, 0) without a LISTING", x.item(0, 0), NO);
        due("item(-1, 0): no LISTING is ahead of no such ITEM", x.item(-1, 0), NO);
        due("item(60, 1): no LISTING is ahead of no such ITEM", x.item(60, 1), NO);
        due("item(0, 2) without a LISTING", x.item(0, 2), BAD);
        due("item(0, -1) without a LISTING", x.item(0, -1), BAD);
        x.begin(0);
        due("item(0, 0)", x.item(0, 0), 0);
        due("item(0, 1)", x.item(0, 1), 0);
        due("item(0, 2)", x.item(0, 2), BAD);
        due("item(0, -1)", x.item(0, -1), BAD);
        due("item(1, 0)", x.item(1, 0), BAD);
        due("item(-1, 0)", x.item(-1, 0), BAD);
        due("item(MAX, 0)", x.item(Integer.MAX_VALUE, 0), BAD);
        due("item(MIN, 1)", x.item(Integer.MIN_VALUE, 1), BAD);
        x.grow(1);
        for (int i = 0; i < 3; i++) {
            due("item(" + i + ", 0)", x.item(i, 0), i + 1);
            due("item(" + i + ", 1)", x.item(i, 1), 1);
        }
        due("item(3, 0)", x.item(3, 0), BAD);
        x.order(1);
        x.grow(1);
        due("item(0, 0)", x.item(0, 0), 1);
        due("item(1, 0)", x.item(1, 0), 3);
        due("item(2, 0)", x.item(2, 0), BAD);
    }

    private static void unitsOfItems() {
        RestBounds x = fork();
        due("units(0) without a LISTING", x.units(0), 0);
        x.begin(0);
        due("units(0)", x.units(0), ALL);
        due("units(1)", x.units(1), 0);
        due("units(-1)", x.units(-1), 0);
        due("units(MAX)", x.units(Integer.MAX_VALUE), 0);
        due("units(MIN)", x.units(Integer.MIN_VALUE), 0);
        x.grow(1);
        due("units(0)", x.units(0), ALL / 4);
        due("units(1)", x.units(1), ALL / 8 * 5);
        due("units(2)", x.units(2), ALL / 8);
        x.grow(2);
        due("units(0)", x.units(0), ALL / 8);
        due("units(1) of one that was", x.units(1), 0);
    }

    private static void foundOutcomes() {
        RestBounds x = fork();
        due("found(0) without a LISTING", x.found(0), 0);
        x.begin(0);
        due("found(0)", x.found(0), 0);
        x.grow(4);
        due("found(0)", x.found(0), ALL / 4);
        due("found(1)", x.found(1), ALL / 8 * 5);
        due("found(2)", x.found(2), ALL / 8);
        for (int o = 3; o < 8; o++) {
            due("found(" + o + ")", x.found(o), 0);
        }
        due("found(8)", x.found(8), 0);
        due("found(-1)", x.found(-1), 0);
        due("found(MAX)", x.found(Integer.MAX_VALUE), 0);
        due("found(MIN)", x.found(Integer.MIN_VALUE), 0);
        x.arrow(0, 1, 1);
        due("found(0): FULL takes nothing away", x.found(0), ALL / 4);
        x.state(7);
        due("found(0) when the LISTING is taken away", x.found(0), 0);
        // two ENDS may have one OUTCOME
        RestBounds y = new RestBounds();
        y.state(NONE);
        y.state(7);
        y.state(7);
        y.arrow(0, 1, 5);
        y.arrow(0, 2, 11);
        due("begin(0)", y.begin(0), 128);
        y.grow(2);
        due("found(7)", y.found(7), ALL / 16 * 5);
        y.grow(1);
        due("found(7)", y.found(7), ALL);
    }

    private static void restsOfStates() {
        RestBounds x = halving();
        due("rests(0) without a LISTING", x.rests(0), 0);
        x.begin(0);
        due("rests(0)", x.rests(0), 0);
        x.grow(500);
        due("rests(0)", x.rests(0), 1L << 20);
        due("rests(1)", x.rests(1), 0);
        due("rests(2)", x.rests(2), 0);
        due("rests(-1)", x.rests(-1), 0);
        due("rests(20)", x.rests(20), 0);
        due("rests(MAX)", x.rests(Integer.MAX_VALUE), 0);
        due("rests(MIN)", x.rests(Integer.MIN_VALUE), 0);
        x.begin(0);
        due("rests(0) anew", x.rests(0), 0);
        x.grow(500);
        x.state(0);
        due("rests(0) when the LISTING is taken away", x.rests(0), 0);
    }

    private static void saving() {
        RestBounds x = fork();
        due("save(0) without a LISTING", x.save(0), NO);
        due("save(3) without a LISTING", x.save(3), BAD);
        x.begin(0);
        due("save(-1)", x.save(-1), BAD);
        due("save(3)", x.save(3), BAD);
        due("save(MAX)", x.save(Integer.MAX_VALUE), BAD);
        due("save(MIN)", x.save(Integer.MIN_VALUE), BAD);
        due("save(0)", x.save(0), 1);
        x.grow(1);
        due("save(1)", x.save(1), 3);
        x.grow(1);
        due("save(2)", x.save(2), 2);
        due("back(0)", x.back(0), 1);
        due("save(2) in place of what was one", x.save(2), 1);
        due("back(1)", x.back(1), 3);
        due("back(2)", x.back(2), 1);
        x.grow(9);
        due("save(0) without ITEMS", x.save(0), 0);
        due("told(2)", x.told(2), 4);
    }

    private static void goingBack() {
        RestBounds x = halving();
        x.begin(0);
        due("back(-1)", x.back(-1), BAD);
        due("back(3)", x.back(3), BAD);
        due("back(MAX)", x.back(Integer.MAX_VALUE), BAD);
        due("back(MIN)", x.back(Integer.MIN_VALUE), BAD);
        due("back(1)", x.back(1), NO);
        x.grow(5);
        due("save(1)", x.save(1), 2);
        x.begin(1);
        x.grow(1);
        x.order(2);
        x.joined(true);
        for (int again = 0; again < 2; again++) {
            due("back(1)", x.back(1), 2);
            due("told(1)", x.told(1), 2);
            due("told(2)", x.told(2), 5);
            due("told(3)", x.told(3), 0);
            due("told(4): SAVES have no ORDER", x.told(4), 2);
            due("joined: SAVES have no JOINED", x.joined(true), 1);
            // 0, 0, END, 0, END went on: by ORDER 0 an END comes behind the 0 of its DEPTH
            due("item(0, 0)", x.item(0, 0), 0);
            due("item(0, 1)", x.item(0, 1), 3);
            due("item(1, 0)", x.item(1, 0), 1);
            due("item(1, 1)", x.item(1, 1), 3);
            due("units(0)", x.units(0), ALL / 8);
            due("units(1)", x.units(1), ALL / 8);
            due("found(0)", x.found(0), ALL / 4 * 3);
            due("end(1, 0)", x.end(1, 0), ALL);
            x.grow(500);
        }
        due("back(0)", x.back(0), NO);
        due("told(1): NO leaves the LISTING", x.told(1), 0);
        savesHoldRests();
    }

    private static void savesHoldRests() {
        RestBounds x = duel();
        x.begin(0);
        x.grow(500);
        long found = x.found(0);
        long left = x.rests(0);
        x.save(2);
        x.begin(1);
        due("rests(0) anew", x.rests(0), 0);
        due("back(2)", x.back(2), 0);
        due("rests(0)", x.rests(0), left);
        due("found(0)", x.found(0), found);
        due("end(1, 1)", x.end(1, 1), found + left);
        due("end(1, 0)", x.end(1, 0), found);
        due("told(3)", x.told(3), 0);
    }

    private static void telling() {
        RestBounds x = duel();
        due("told(0)", x.told(0), 4);
        due("told(1)", x.told(1), 0);
        due("told(2)", x.told(2), 0);
        due("told(3)", x.told(3), NONE);
        x.begin(1);
        x.grow(1);
        x.order(1);
        due("told(1)", x.told(1), 2);
        due("told(2)", x.told(2), 1);
        due("told(3)", x.told(3), 1);
        due("told(4)", x.told(4), 1);
        x.grow(2);
        due("told(2)", x.told(2), 3);
        x.law(1, 0);
        due("told(10)", x.told(10), NONE);
        due("told(11)", x.told(11), 0);
        due("told(12) of an END", x.told(12), NONE);
        int[] none = {-1, -2, 5, 6, 9, 14, 29, 30, Integer.MAX_VALUE, Integer.MIN_VALUE};
        for (int what : none) {
            due("told(" + what + ")", x.told(what), BAD);
        }
    }
}
