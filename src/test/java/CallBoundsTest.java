/**
 * The bounds that each promise names for its own call: a test for each sentence, at its bound, one
 * below it and one above it. That refused calls change nothing is RefusalTest's.
 */
public final class CallBoundsTest {
    private static final long WHOLE = 167961600000000L;
    private static final int BAD = -1, FULL = -2, STATE = -3, UNEVEN = -4, NONE = -5;
    private static final long THROWN = Long.MIN_VALUE;
    private static final int LEAST = Integer.MIN_VALUE, MOST = Integer.MAX_VALUE;
    private static final int TENS = 0, TWOS = 1, RARE = 2, FIRST = 3;

    private static int wrong = 0;
    private static int looked = 0;
    private static String sentence = "";

    private static void says(String words) {
        sentence = words;
    }

    private static void due(String call, long got, long want) {
        looked++;
        if (got != want) {
            wrong++;
            System.out.println("\"" + sentence + "\": " + call + " answered " + got + ", due is " + want);
        }
    }

    private static long oddsOf(JoinedLists j, int x, int v, int part) {
        try {
            return j.odds(x, v, part);
        } catch (ArithmeticException e) {
            if ("/ by zero".equals(e.getMessage())) {
                due("odds(" + x + ", " + v + ", " + part + "), thrown by the machine itself (1)", 1, 0);
            }
            return THROWN;
        }
    }

    /** TENS: ten values of 6. TWOS: 0 and 1 of 30. RARE: 0 of 59, 9 of 1. FIRST: as it is at first. */
    private static JoinedLists withRows() {
        JoinedLists j = new JoinedLists();
        for (int v = 0; v < 10; v++) {
            j.weight(TENS, v, 6);
        }
        j.weight(TWOS, 0, 30);
        j.weight(TWOS, 1, 30);
        j.weight(RARE, 0, 59);
        j.weight(RARE, 9, 1);
        return j;
    }

    private static void listAll(JoinedLists j) {
        due("begin()", j.begin(), 1);
        for (int i = 0; i < 7 && j.done() == 0; i++) {
            j.list(1000);
        }
        due("done()", j.done(), 1);
    }

    private static JoinedLists ofSteps(int draws, int weighs, int steps) {
        JoinedLists j = new JoinedLists();
        for (int i = 0; i < draws; i++) {
            j.draw(0, FIRST);
        }
        for (int i = 0; i < weighs; i++) {
            j.weigh(11);
        }
        for (int i = draws + weighs; i < steps; i++) {
            j.set(1, 0, 1, 11);
        }
        due("count(0)", j.count(0), steps);
        return j;
    }

    private static void promise1() {
        says("1: No STEPS");
        JoinedLists j = new JoinedLists();
        for (int what = 0; what < 4; what++) {
            due("count(" + what + ")", j.count(what), 0);
        }
        due("drop()", j.drop(), STATE);
        due("live(1)", j.live(1), BAD);
        due("runs()", j.runs(), 1);
        says("1: no LISTING");
        due("done()", j.done(), STATE);
        due("list(1)", j.list(1), STATE);
        due("states(0, 0)", j.states(0, 0), STATE);
        due("code(0, 0)", j.code(0, 0), STATE);
        due("mass(0, 0)", j.mass(0, 0), 0);
        due("sum(0, -1, 0)", j.sum(0, -1, 0), STATE);
        says("1: nothing ASKED");
        due("live(0)", j.live(0), 0);
        for (int x = 0; x < 6; x++) {
            due("odds(" + x + ", 0, 0)", oddsOf(j, x, 0, 0), BAD);
            due("ask(" + x + ", true)", j.ask(x, true), 0);
        }
        says("1: an object of its own");
        JoinedLists other = new JoinedLists();
        due("live(0) of another object", other.live(0), 0);
        j.weight(0, 0, 1);
        due("weight of another object", other.weight(0, 0, 60), 60);
    }

    private static void promise2() {
        says("2: The WEIGHT of a value in a ROW: what it was");
        int[] corners = {0, 3};
        for (int row : corners) {
            JoinedLists j = new JoinedLists();
            due("weight(" + row + ", 9, 60)", j.weight(row, 9, 60), 0);
            due("weight(" + row + ", 9, 59)", j.weight(row, 9, 59), 60);
            due("weight(" + row + ", 9, 1)", j.weight(row, 9, 1), 59);
            due("weight(" + row + ", 9, 0)", j.weight(row, 9, 0), 1);
            due("weight(" + row + ", 9, 0)", j.weight(row, 9, 0), 0);
            due("weight(" + row + ", 0, 0)", j.weight(row, 0, 0), 60);
            due("weight(" + (3 - row) + ", 0, 0)", j.weight(3 - row, 0, 0), 60);
            due("weight(" + row + ", 8, 0)", j.weight(row, 8, 0), 0);
        }
        says("2: BAD");
        JoinedLists j = new JoinedLists();
        due("weight(-1, 0, 0)", j.weight(-1, 0, 0), BAD);
        due("weight(4, 0, 0)", j.weight(4, 0, 0), BAD);
        due("weight(0, -1, 0)", j.weight(0, -1, 0), BAD);
        due("weight(0, 10, 0)", j.weight(0, 10, 0), BAD);
        due("weight(0, 0, -1)", j.weight(0, 0, -1), BAD);
        due("weight(0, 0, 61)", j.weight(0, 0, 61), BAD);
        due("weight(4, 10, 61)", j.weight(4, 10, 61), BAD);
        due("weight(0, 0, 60)", j.weight(0, 0, 60), 60);
    }

    private static void promise3() {
        says("3: A DRAW: its STEP");
        due("draw at first", new JoinedLists().draw(0, 0), 0);
        due("draw behind 28 STEPS", ofSteps(6, 0, 28).draw(5, 3), 28);
        says("3: FULL: 30 STEPS, 8 DRAWS");
        due("draw with 29 STEPS, 7 DRAWS", ofSteps(7, 3, 29).draw(5, 3), 29);
        due("draw with 30 STEPS, 7 DRAWS", ofSteps(7, 0, 30).draw(5, 3), FULL);
        due("draw with 30 STEPS, no DRAWS", ofSteps(0, 0, 30).draw(5, 3), FULL);
        due("draw with 29 STEPS, 8 DRAWS", ofSteps(8, 0, 29).draw(5, 3), FULL);
        due("draw with 8 STEPS, 8 DRAWS", ofSteps(8, 0, 8).draw(5, 3), FULL);
        due("draw with 7 STEPS, 7 DRAWS", ofSteps(7, 0, 7).draw(5, 3), 7);
        due("draw with 30 STEPS, 8 DRAWS", ofSteps(8, 0, 30).draw(5, 3), FULL);
        says("3: BAD ahead of FULL");
        due("draw(6, 0) with 30 STEPS", ofSteps(0, 0, 30).draw(6, 0), BAD);
        due("draw(0, 4) with 8 DRAWS", ofSteps(8, 0, 8).draw(0, 4), BAD);
        due("draw(-1, 0) with 8 DRAWS", ofSteps(8, 0, 8).draw(-1, 0), BAD);
        due("draw(0, -1) with 30 STEPS", ofSteps(0, 0, 30).draw(0, -1), BAD);
    }

    private static void promise4() {
        says("4: A SET: its STEP. BAD; FULL");
        due("set at first", new JoinedLists().set(0, 0, 0, 0), 0);
        due("set with 28 STEPS", ofSteps(8, 3, 28).set(5, 6, 19, 5), 28);
        due("set with 29 STEPS", ofSteps(8, 3, 29).set(5, 6, 19, 5), 29);
        due("set with 30 STEPS", ofSteps(8, 3, 30).set(5, 6, 19, 5), FULL);
        JoinedLists full = ofSteps(0, 0, 30);
        due("set(-1, 0, 0, 0) with 30 STEPS", full.set(-1, 0, 0, 0), BAD);
        due("set(6, 0, 0, 0) with 30 STEPS", full.set(6, 0, 0, 0), BAD);
        due("set(0, -1, 0, 0) with 30 STEPS", full.set(0, -1, 0, 0), BAD);
        due("set(0, 7, 0, 0) with 30 STEPS", full.set(0, 7, 0, 0), BAD);
        due("set(0, 0, 6, 0) with 30 STEPS", full.set(0, 0, 6, 0), BAD);
        due("set(0, 0, 0, 20) with 30 STEPS", full.set(0, 0, 0, 20), BAD);
        due("set(0, 0, 0, 0) with 30 STEPS", full.set(0, 0, 0, 0), FULL);
    }

    private static void promise5() {
        says("5: An OBSERVE: its STEP. BAD; FULL");
        due("observe at first", new JoinedLists().observe(0, 0, 0), 0);
        due("observe with 28 STEPS", ofSteps(8, 3, 28).observe(19, 3, 5), 28);
        due("observe with 29 STEPS", ofSteps(8, 3, 29).observe(19, 3, 5), 29);
        due("observe with 30 STEPS", ofSteps(8, 3, 30).observe(19, 3, 5), FULL);
        JoinedLists full = ofSteps(0, 0, 30);
        due("observe(9, 0, 0) with 30 STEPS", full.observe(9, 0, 0), BAD);
        due("observe(0, -1, 0) with 30 STEPS", full.observe(0, -1, 0), BAD);
        due("observe(0, 4, 0) with 30 STEPS", full.observe(0, 4, 0), BAD);
        due("observe(0, 0, -1) with 30 STEPS", full.observe(0, 0, -1), BAD);
        due("observe(0, 0, 0) with 30 STEPS", full.observe(0, 0, 0), FULL);
    }

    private static void promise6() {
        says("6: A WEIGH: its STEP");
        due("weigh at first", new JoinedLists().weigh(0), 0);
        due("weigh with 28 STEPS", ofSteps(8, 2, 28).weigh(19), 28);
        says("6: FULL: 30 STEPS, 3 WEIGHS");
        due("weigh with 29 STEPS, 2 WEIGHS", ofSteps(8, 2, 29).weigh(19), 29);
        due("weigh with 30 STEPS, 2 WEIGHS", ofSteps(0, 2, 30).weigh(19), FULL);
        due("weigh with 30 STEPS, no WEIGHS", ofSteps(0, 0, 30).weigh(19), FULL);
        due("weigh with 29 STEPS, 3 WEIGHS", ofSteps(0, 3, 29).weigh(19), FULL);
        due("weigh with 3 STEPS, 3 WEIGHS", ofSteps(0, 3, 3).weigh(19), FULL);
        due("weigh with 2 STEPS, 2 WEIGHS", ofSteps(0, 2, 2).weigh(19), 2);
        says("6: BAD ahead of FULL");
        due("weigh(-1) with 3 WEIGHS", ofSteps(0, 3, 3).weigh(-1), BAD);
        due("weigh(6) with 30 STEPS", ofSteps(0, 0, 30).weigh(6), BAD);
        due("weigh(20) with 30 STEPS", ofSteps(0, 0, 30).weigh(20), BAD);
    }

    private static void promise7() {
        says("7: A SKIP: its STEP. BAD; FULL");
        due("skip at first", new JoinedLists().skip(0, 1), 0);
        due("skip with 28 STEPS", ofSteps(8, 3, 28).skip(19, 9), 28);
        due("skip with 29 STEPS", ofSteps(8, 3, 29).skip(19, 9), 29);
        due("skip with 30 STEPS", ofSteps(8, 3, 30).skip(19, 9), FULL);
        JoinedLists full = ofSteps(0, 0, 30);
        due("skip(6, 1) with 30 STEPS", full.skip(6, 1), BAD);
        due("skip(0, 0) with 30 STEPS", full.skip(0, 0), BAD);
        due("skip(0, 10) with 30 STEPS", full.skip(0, 10), BAD);
        due("skip(0, 9) with 30 STEPS", full.skip(0, 9), FULL);
        JoinedLists j = new JoinedLists();
        due("skip(0, least)", j.skip(0, LEAST), BAD);
        due("skip(0, most)", j.skip(0, MOST), BAD);
    }

    private static void promise8() {
        says("8: The last STEP goes: how many are left. STATE: there is none");
        int[] lengths = {0, 1, 2, 29, 30};
        for (int steps : lengths) {
            JoinedLists j = ofSteps(0, 0, steps);
            for (int left = steps - 1; left >= 0; left--) {
                due("drop()", j.drop(), left);
                due("count(0)", j.count(0), left);
            }
            due("drop() of none", j.drop(), STATE);
            due("drop() of none, again", j.drop(), STATE);
            due("count(0)", j.count(0), 0);
            due("a STEP behind it", j.skip(0, 1), 0);
        }
        JoinedLists last = new JoinedLists();
        last.set(0, 0, 11, 10);
        last.set(0, 0, 12, 10);
        last.drop();
        due("the first STEP stays", last.plain(0, 1), WHOLE);
        last.drop();
        due("none stays", last.plain(0, 0), WHOLE);
    }

    private static void promise9() {
        says("9: A VARIABLE is ASKED, or not: whether it was (1, 0)");
        for (int x = 0; x < 6; x++) {
            JoinedLists j = new JoinedLists();
            due("ask(" + x + ", false)", j.ask(x, false), 0);
            due("ask(" + x + ", true)", j.ask(x, true), 0);
            due("ask(" + x + ", true)", j.ask(x, true), 1);
            due("live(0)", j.live(0), 1 << x);
            due("ask(" + x + ", false)", j.ask(x, false), 1);
            due("ask(" + x + ", false)", j.ask(x, false), 0);
            due("live(0)", j.live(0), 0);
        }
        says("9: BAD");
        JoinedLists j = new JoinedLists();
        int[] none = {LEAST, -1, 6, 10, 32, MOST};
        for (int x : none) {
            due("ask(" + x + ", true)", j.ask(x, true), BAD);
            due("ask(" + x + ", false)", j.ask(x, false), BAD);
        }
        due("live(0)", j.live(0), 0);
    }

    private static void promise10() {
        says("10: The LIVE VARIABLES at a PLACE, 2^x for each");
        JoinedLists j = new JoinedLists();
        for (int x = 0; x < 6; x++) {
            j.set(x, 0, 10, 10);
            j.ask(x, true);
        }
        for (int place = 0; place <= 6; place++) {
            due("live(" + place + ")", j.live(place), (1 << place) - 1);
        }
        says("10: BAD");
        due("live(-1)", j.live(-1), BAD);
        due("live(7)", j.live(7), BAD);
        due("live(least)", j.live(LEAST), BAD);
        due("live(most)", j.live(MOST), BAD);
        JoinedLists long30 = ofSteps(0, 0, 30);
        due("live(30) of 30 STEPS", long30.live(30), 0);
        due("live(31) of 30 STEPS", long30.live(31), BAD);
        due("live(0) of 30 STEPS that read VARIABLE 1", long30.live(0), 2);
    }

    private static void promise11() {
        says("11: UNEVEN: WEIGHTS of a ROW by which is DRAWN are not 60 together");
        int[][] rows = {{60, 0, 1}, {59, 1, 1}, {59, 0, 0}, {60, 1, 0}, {0, 60, 1}, {0, 0, 0}, {0, 59, 0}, {1, 60, 0}, {60, 60, 0}, {30, 30, 1}};
        for (int[] r : rows) {
            for (int row = 0; row < 4; row++) {
                JoinedLists j = new JoinedLists();
                j.weight(row, 0, r[0]);
                j.weight(row, 9, r[1]);
                due("begin() by ROW " + row + ", not drawn by", j.begin(), 1);
                j.draw(5, row);
                String of = " of " + r[0] + " and " + r[1] + " in ROW " + row;
                due("begin()" + of, j.begin(), r[2] == 1 ? 1 : UNEVEN);
                due("done()" + of, j.done(), r[2] == 1 ? 0 : STATE);
                due("runs()" + of + " is UNEVEN (1)", j.runs() == UNEVEN ? 1 : 0, 1 - r[2]);
                due("plain(-1, 0)" + of + " is UNEVEN (1)", j.plain(-1, 0) == UNEVEN ? 1 : 0, 1 - r[2]);
                j.drop();
                due("begin(), the DRAW dropped", j.begin(), 1);
            }
        }
        JoinedLists mixed = new JoinedLists();
        mixed.weight(2, 5, 1);
        mixed.draw(0, 1);
        due("begin() by an even ROW, another one being uneven", mixed.begin(), 1);
        mixed.draw(0, 2);
        due("begin() by both", mixed.begin(), UNEVEN);
        mixed.draw(0, 3);
        due("begin() by three", mixed.begin(), UNEVEN);
        mixed.weight(2, 0, 59);
        due("begin(), made even", mixed.begin(), 1);
        says("11: A LISTING begins: 1");
        mixed.list(2);
        due("begin() in the middle", mixed.begin(), 1);
        due("count(3)", mixed.count(3), 0);
        due("states(0, 0)", mixed.states(0, 0), 1);
    }

    private static JoinedLists of1211Work() {
        JoinedLists j = withRows();
        j.draw(0, TENS);
        j.draw(1, TENS);
        for (int i = 0; i < 12; i++) {
            j.set(2, 0, 2, 11);
        }
        j.ask(0, true);
        j.ask(1, true);
        j.begin();
        return j;
    }

    private static void promise12() {
        says("12: So much WORK at most (1 to 1000): how much was done");
        JoinedLists j = of1211Work();
        due("list(1000)", j.list(1000), 1000);
        due("done()", j.done(), 0);
        due("count(3)", j.count(3), 1000);
        due("list(1000)", j.list(1000), 211);
        due("count(3)", j.count(3), 1211);
        due("done()", j.done(), 1);
        JoinedLists by999 = of1211Work();
        due("list(999)", by999.list(999), 999);
        due("list(1)", by999.list(1), 1);
        due("count(3)", by999.count(3), 1000);
        says("12: fewer, when it is DONE");
        due("list(210)", by999.list(210), 210);
        due("done()", by999.done(), 0);
        due("list(2)", by999.list(2), 1);
        due("done()", by999.done(), 1);
        due("list(1)", by999.list(1), 0);
        due("list(1000)", by999.list(1000), 0);
        due("count(3)", by999.count(3), 1211);
        JoinedLists exact = of1211Work();
        exact.list(1000);
        due("list(211), as much as there is", exact.list(211), 211);
        due("done()", exact.done(), 1);
        says("12: BAD");
        int[] none = {LEAST, -1000, -1, 0, 1001, 1002, MOST};
        for (int work : none) {
            JoinedLists k = of1211Work();
            due("list(" + work + ")", k.list(work), BAD);
            due("count(3)", k.count(3), 0);
            due("list(" + work + ") without a LISTING", new JoinedLists().list(work), BAD);
        }
        says("12: STATE: no LISTING");
        due("list(1)", new JoinedLists().list(1), STATE);
        due("list(1000)", new JoinedLists().list(1000), STATE);
    }

    /** The end takes 200 of the 300 states that would come to it, three at a time. */
    private static JoinedLists threeAtATime() {
        JoinedLists j = withRows();
        j.weight(RARE, 0, 20);
        j.weight(RARE, 1, 20);
        j.weight(RARE, 9, 20);
        j.draw(0, TENS);
        j.draw(1, TENS);
        j.draw(2, RARE);
        for (int x = 0; x < 3; x++) {
            j.ask(x, true);
        }
        j.begin();
        return j;
    }

    private static void promise12NoRoom() {
        says("12: fewer, when a PLACE has no room for all that would come of the next one (that is not done)");
        JoinedLists j = threeAtATime();
        due("list(77)", j.list(77), 77);
        due("states(3, 0)", j.states(3, 0), 198);
        due("list(1)", j.list(1), 0);
        due("list(1000)", j.list(1000), 0);
        due("states(3, 0)", j.states(3, 0), 198);
        due("states(3, 1)", j.states(3, 1), 198);
        due("states(2, 0)", j.states(2, 0), 34);
        due("code(2, 0)", j.code(2, 0), 660000);
        due("count(3)", j.count(3), 77);
        JoinedLists fewer = threeAtATime();
        due("list(76)", fewer.list(76), 76);
        due("states(3, 0)", fewer.states(3, 0), 195);
        due("list(2)", fewer.list(2), 1);
    }

    private static void promise13() {
        says("13: 1 it is DONE, 2 there is no room for what comes of the next WORK, 0 neither");
        JoinedLists j = threeAtATime();
        due("done() at first", j.done(), 0);
        j.list(76);
        due("done() with 195, three to come", j.done(), 0);
        j.list(1);
        due("done() with 198, three to come", j.done(), 2);
        due("done() again", j.done(), 2);
        JoinedLists d = of1211Work();
        d.list(1000);
        d.list(210);
        due("done() one ahead", d.done(), 0);
        d.list(1);
        due("done() behind the last", d.done(), 1);
        says("13: STATE: no LISTING");
        due("done() of a new object", new JoinedLists().done(), STATE);
        d.ask(0, true);
        due("done() behind ask", d.done(), STATE);
    }

    private static void promise14() {
        says("14: How many STATES a PLACE has (0), COMES to it (1), of these JOINED (2)");
        JoinedLists j = withRows();
        j.draw(0, TENS);
        j.set(0, 3, 0, 11);
        j.ask(0, true);
        due("begin()", j.begin(), 1);
        int[][][] want = {{{1, 1, 0}, {0, 0, 0}, {0, 0, 0}}, {{0, 1, 0}, {10, 10, 0}, {0, 0, 0}}, {{0, 1, 0}, {9, 10, 0}, {1, 1, 0}},
            {{0, 1, 0}, {8, 10, 0}, {2, 2, 0}}, {{0, 1, 0}, {7, 10, 0}, {2, 3, 1}}};
        for (int work = 0; work < want.length; work++) {
            for (int place = 0; place < 3; place++) {
                for (int what = 0; what < 3; what++) {
                    due("states(" + place + ", " + what + ") behind " + work, j.states(place, what), want[work][place][what]);
                }
            }
            j.list(1);
        }
        says("14: BAD");
        int[] none = {LEAST, -1, 3, 4, MOST};
        for (int n : none) {
            due("states(0, " + n + ")", j.states(0, n), BAD);
            due("states(" + n + ", 0)", j.states(n, 0), BAD);
            due("states(0, " + n + ") without a LISTING", new JoinedLists().states(0, n), BAD);
            due("states(" + n + ", 0) without a LISTING", new JoinedLists().states(n, 0), BAD);
        }
        due("states(1, 0) of no STEPS, without a LISTING", new JoinedLists().states(1, 0), BAD);
        says("14: STATE: no LISTING");
        for (int what = 0; what < 3; what++) {
            due("states(0, " + what + ")", new JoinedLists().states(0, what), STATE);
        }
    }

    private static void promise15And16() {
        says("15: The CODE of the i-th STATE (from 0) at a PLACE, by CODES");
        JoinedLists j = withRows();
        j.draw(5, TENS);
        j.set(0, 1, 10, 5);
        j.ask(0, true);
        listAll(j);
        for (int i = 0; i < 10; i++) {
            due("code(2, " + i + ")", j.code(2, i), i * 100000);
            due("mass(2, " + i + ")", j.mass(2, i), WHOLE / 10);
        }
        says("15: NONE");
        int[] none = {LEAST, -1, 10, 11, 199, 200, MOST};
        for (int i : none) {
            due("code(2, " + i + ")", j.code(2, i), NONE);
        }
        due("code(1, 0), all gone on", j.code(1, 0), NONE);
        due("code(0, 0), gone on", j.code(0, 0), NONE);
        says("16: 0: there is none such");
        for (int i : none) {
            due("mass(2, " + i + ")", j.mass(2, i), 0);
        }
        due("mass(1, 0), all gone on", j.mass(1, 0), 0);
        due("mass(0, 0), gone on", j.mass(0, 0), 0);
        int[] noPlace = {LEAST, -1, 3, 30, 31, MOST};
        for (int place : noPlace) {
            due("mass(" + place + ", 0)", j.mass(place, 0), 0);
            says("15: BAD: no PLACE");
            due("code(" + place + ", 0)", j.code(place, 0), BAD);
            due("code(" + place + ", -1)", j.code(place, -1), BAD);
            says("16: 0: there is none such");
        }
        JoinedLists without = new JoinedLists();
        due("mass(0, 0) without a LISTING", without.mass(0, 0), 0);
        due("mass(1, 0) without a LISTING", without.mass(1, 0), 0);
        says("15: STATE: no LISTING");
        due("code(0, 0)", without.code(0, 0), STATE);
        due("code(0, -1)", without.code(0, -1), STATE);
        says("15: BAD: no PLACE, ahead of STATE");
        due("code(1, 0)", without.code(1, 0), BAD);
        due("code(-1, 0)", without.code(-1, 0), BAD);
        JoinedLists moving = withRows();
        moving.draw(0, TENS);
        moving.set(1, 0, 0, 10);
        moving.ask(1, true);
        moving.begin();
        moving.list(4);
        says("15: the i-th STATE, by CODES, of those that are still there");
        due("code(1, 0)", moving.code(1, 0), 300000);
        due("code(1, 6)", moving.code(1, 6), 900000);
        due("code(1, 7)", moving.code(1, 7), NONE);
        due("mass(1, 6)", moving.mass(1, 6), WHOLE / 10);
        due("mass(1, 7)", moving.mass(1, 7), 0);
        due("code(2, 2)", moving.code(2, 2), 20000);
        due("code(2, 3)", moving.code(2, 3), NONE);
    }

    private static JoinedLists someEverywhere() {
        JoinedLists j = withRows();
        j.draw(0, TENS);
        j.observe(0, 1, 10);
        j.set(1, 0, 0, 10);
        j.ask(0, true);
        j.ask(1, true);
        j.begin();
        return j;
    }

    private static void promise17() {
        says("17: MASSES at the END (what = 0), LOST (1), of STATES elsewhere (2) (x = -1: of all)");
        JoinedLists j = someEverywhere();
        long tenth = WHOLE / 10;
        long[][] want = {{0, 0, 10}, {0, 0, 10}, {0, 1, 9}};
        for (int work = 0; work < 3; work++) {
            for (int what = 0; what < 3; what++) {
                due("sum(" + what + ", -1, 0) behind " + work, j.sum(what, -1, 0), want[work][what] * tenth);
            }
            j.list(1);
        }
        due("list(9)", j.list(9), 9);
        for (int at = 1; at < 9; at++) {
            due("sum(0, -1, 0)", j.sum(0, -1, 0), at * tenth);
            due("sum(1, -1, 0)", j.sum(1, -1, 0), tenth);
            due("sum(2, -1, 0)", j.sum(2, -1, 0), (9 - at) * tenth);
            says("17: with a VARIABLE (0 to 5; of what 0, 2 alone) of the STATES that have a value v for it");
            for (int v = 0; v < 10; v++) {
                due("sum(0, 1, " + v + ")", j.sum(0, 1, v), v >= 1 && v <= at ? tenth : 0);
                due("sum(2, 0, " + v + ")", j.sum(2, 0, v), v > at ? tenth : 0);
            }
            due("sum(0, 5, 0)", j.sum(0, 5, 0), at * tenth);
            due("sum(2, 5, 0)", j.sum(2, 5, 0), (9 - at) * tenth);
            due("sum(2, 5, 9)", j.sum(2, 5, 9), 0);
            says("17: MASSES at the END (what = 0), LOST (1), of STATES elsewhere (2) (x = -1: of all)");
            j.list(1);
        }
        due("sum(2, -1, 0) when DONE", j.sum(2, -1, 0), 0);
        due("sum(0, -1, 0) when DONE", j.sum(0, -1, 0), 9 * tenth);
        says("17: x = -1: of all, whatever v is");
        due("sum(0, -1, 9)", j.sum(0, -1, 9), 9 * tenth);
        due("sum(0, -1, 10)", j.sum(0, -1, 10), 9 * tenth);
        due("sum(1, -1, -1)", j.sum(1, -1, -1), tenth);
        dueBadSums(j, "with a LISTING");
        dueBadSums(new JoinedLists(), "without a LISTING");
        says("17: -3: no LISTING");
        JoinedLists without = new JoinedLists();
        due("sum(0, -1, 0)", without.sum(0, -1, 0), STATE);
        due("sum(1, -1, 0)", without.sum(1, -1, 0), STATE);
        due("sum(2, -1, 0)", without.sum(2, -1, 0), STATE);
        due("sum(0, 0, 0)", without.sum(0, 0, 0), STATE);
        due("sum(2, 5, 9)", without.sum(2, 5, 9), STATE);
    }

    private static void dueBadSums(JoinedLists j, String with) {
        says("17: -1: BAD");
        int[] noWhat = {LEAST, -1, 3, MOST};
        int[] noVariable = {LEAST, -2, 6, 10, MOST};
        int[] noValue = {LEAST, -1, 10, MOST};
        for (int what : noWhat) {
            due("sum(" + what + ", -1, 0) " + with, j.sum(what, -1, 0), BAD);
            due("sum(" + what + ", 0, 0) " + with, j.sum(what, 0, 0), BAD);
        }
        for (int what = 0; what < 3; what++) {
            for (int x : noVariable) {
                due("sum(" + what + ", " + x + ", 0) " + with, j.sum(what, x, 0), BAD);
            }
            for (int v : noValue) {
                due("sum(" + what + ", 0, " + v + ") " + with, j.sum(what, 0, v), BAD);
                due("sum(" + what + ", 5, " + v + ") " + with, j.sum(what, 5, v), BAD);
            }
        }
        for (int x = 0; x < 6; x++) {
            due("sum(1, " + x + ", 0) " + with, j.sum(1, x, 0), BAD);
        }
    }

    private static void dueOdds(JoinedLists j, int x, int v, long upper, long lower) {
        due("odds(" + x + ", " + v + ", 0)", oddsOf(j, x, v, 0), upper);
        due("odds(" + x + ", " + v + ", 1)", oddsOf(j, x, v, 1), lower);
    }

    private static void promise18() {
        says("18: The odds among what is there, in lowest terms: the upper part (0), the lower one (1)");
        JoinedLists j = new JoinedLists();
        j.ask(0, true);
        j.begin();
        dueOdds(j, 0, 0, 1, 1);
        for (int v = 1; v < 10; v++) {
            dueOdds(j, 0, v, 0, 1);
        }
        JoinedLists rare = withRows();
        for (int i = 0; i < 8; i++) {
            rare.draw(1, RARE);
            rare.set(0, 4, 0, 1);
        }
        rare.ask(0, true);
        listAll(rare);
        dueOdds(rare, 0, 0, 146830437604321L, WHOLE);
        dueOdds(rare, 0, 9, WHOLE - 146830437604321L, WHOLE);
        JoinedLists seen = withRows();
        seen.draw(0, TENS);
        seen.observe(0, 2, 16);
        seen.weigh(0);
        seen.ask(0, true);
        listAll(seen);
        dueOdds(seen, 0, 0, 0, 1);
        dueOdds(seen, 0, 1, 1, 15);
        dueOdds(seen, 0, 3, 1, 5);
        dueOdds(seen, 0, 4, 4, 15);
        dueOdds(seen, 0, 5, 1, 3);
        dueOdds(seen, 0, 6, 0, 1);
    }

    private static void promise18Refusals() {
        says("18: BAD: no such VARIABLE, value, part, or it is not ASKED");
        JoinedLists open = someEverywhere();
        JoinedLists done = someEverywhere();
        done.list(1000);
        JoinedLists without = new JoinedLists();
        without.ask(0, true);
        without.ask(1, true);
        JoinedLists empty = new JoinedLists();
        empty.observe(10, 1, 10);
        empty.ask(0, true);
        empty.ask(1, true);
        listAll(empty);
        JoinedLists[] objects = {open, done, without, empty};
        for (JoinedLists j : objects) {
            int[] noVariable = {LEAST, -1, 6, 10, 32, MOST};
            for (int x : noVariable) {
                due("odds(" + x + ", 0, 0)", oddsOf(j, x, 0, 0), BAD);
            }
            int[] noValue = {LEAST, -1, 10, MOST};
            for (int v : noValue) {
                due("odds(0, " + v + ", 0)", oddsOf(j, 0, v, 0), BAD);
            }
            int[] noPart = {LEAST, -1, 2, MOST};
            for (int part : noPart) {
                due("odds(0, 0, " + part + ")", oddsOf(j, 0, 0, part), BAD);
            }
            for (int x = 2; x < 6; x++) {
                due("odds(" + x + ", 0, 0), not ASKED", oddsOf(j, x, 0, 0), BAD);
            }
        }
        due("odds(1, 9, 1)", oddsOf(done, 1, 9, 1), 9);
        says("18: -3: no LISTING, or it is not DONE");
        due("odds without a LISTING", oddsOf(without, 0, 0, 0), STATE);
        for (int work = 0; work < 20; work++) {
            due("odds when " + work + " WORK is done", oddsOf(open, 1, 9, 1), STATE);
            open.list(1);
        }
        due("odds when all WORK is done", oddsOf(open, 1, 9, 1), 9);
        JoinedLists stuck = threeAtATime();
        stuck.list(1000);
        due("odds when there is no room", oddsOf(stuck, 0, 0, 0), STATE);
        says("18: ArithmeticException: nothing is at the END");
        due("odds(0, 0, 0)", oddsOf(empty, 0, 0, 0), THROWN);
        due("odds(1, 9, 1)", oddsOf(empty, 1, 9, 1), THROWN);
        due("done() behind it", empty.done(), 1);
        JoinedLists ahead = new JoinedLists();
        ahead.observe(10, 1, 10);
        ahead.ask(0, true);
        ahead.begin();
        due("odds when nothing is at the END yet", oddsOf(ahead, 0, 0, 0), STATE);
        JoinedLists weighed = new JoinedLists();
        weighed.weigh(10);
        weighed.ask(0, true);
        listAll(weighed);
        due("odds when a WEIGH has lost all", oddsOf(weighed, 0, 0, 0), THROWN);
    }

    /** Four draws of ten values and one of two, and none, one run fewer or one run more. */
    private static JoinedLists about20000(int more) {
        JoinedLists j = withRows();
        for (int x = 0; x < 4; x++) {
            j.draw(x, TENS);
        }
        j.set(5, 4, 0, 1);
        j.set(5, 4, 5, 2);
        j.set(5, 4, 5, 3);
        if (more < 0) {
            j.skip(5, 1);
        }
        j.draw(4, TWOS);
        if (more > 0) {
            j.set(5, 4, 5, 4);
            j.set(5, 5, 5, 10);
            j.skip(5, 1);
            j.draw(5, TWOS);
        }
        return j;
    }

    private static void promise19() {
        says("19: FULL: above 20000");
        due("runs() of 19999", about20000(-1).runs(), 19999);
        due("runs() of 20000", about20000(0).runs(), 20000);
        due("runs() of 20001", about20000(1).runs(), FULL);
        JoinedLists j = about20000(0);
        j.observe(0, 1, 0);
        due("runs() of 20000 LOST ones", j.runs(), 20000);
        due("runs() again", j.runs(), 20000);
        j.draw(0, TWOS);
        due("runs(): LOST ones draw no more", j.runs(), 20000);
        JoinedLists most = withRows();
        for (int i = 0; i < 8; i++) {
            most.draw(i % 6, TENS);
        }
        due("runs() of 10^8", most.runs(), FULL);
        JoinedLists lost = about20000(1);
        lost.weigh(10);
        due("runs() of 20001 LOST ones", lost.runs(), FULL);
        lost.clear();
        due("runs() behind clear()", lost.runs(), 1);
        says("19: How many RUNS there are, LOST ones, too");
        JoinedLists few = withRows();
        due("runs() of no STEPS", few.runs(), 1);
        few.observe(10, 1, 10);
        due("runs() of a LOST one", few.runs(), 1);
        few.draw(0, TENS);
        due("runs() of one LOST ahead of a DRAW", few.runs(), 1);
        few.clear();
        few.weigh(10);
        due("runs() of one LOST by a WEIGH", few.runs(), 1);
        says("19: of WEIGHTS as they are");
        JoinedLists now = withRows();
        now.draw(0, TWOS);
        now.draw(1, TWOS);
        due("runs() by two values", now.runs(), 4);
        now.weight(TWOS, 1, 29);
        now.weight(TWOS, 2, 1);
        due("runs() by three values", now.runs(), 9);
        now.weight(TWOS, 1, 0);
        now.weight(TWOS, 2, 0);
        now.weight(TWOS, 0, 60);
        due("runs() by one value", now.runs(), 1);
        says("19: UNEVEN; FULL: the first that the call names");
        most.weight(TENS, 0, 5);
        due("runs()", most.runs(), UNEVEN);
        now.weight(TWOS, 0, 59);
        due("runs() by 59", now.runs(), UNEVEN);
        now.weight(TWOS, 1, 2);
        due("runs() by 61", now.runs(), UNEVEN);
    }

    private static void promise20() {
        says("20: The MASS of the RUNS in which VARIABLE x (-1: any) has a value v at the END");
        JoinedLists j = withRows();
        j.draw(0, TENS);
        j.draw(1, TWOS);
        j.observe(0, 2, 18);
        long part = WHOLE / 20;
        due("plain(-1, 0)", j.plain(-1, 0), 16 * part);
        due("plain(-1, 9)", j.plain(-1, 9), 16 * part);
        due("plain(-1, -1)", j.plain(-1, -1), 16 * part);
        due("plain(-1, 10)", j.plain(-1, 10), 16 * part);
        for (int v = 0; v < 10; v++) {
            due("plain(0, " + v + ")", j.plain(0, v), v < 8 ? 2 * part : 0);
            due("plain(1, " + v + ")", j.plain(1, v), v < 2 ? 8 * part : 0);
            due("plain(5, " + v + ")", j.plain(5, v), v == 0 ? 16 * part : 0);
        }
        j.drop();
        due("plain(-1, 0), the OBSERVE dropped", j.plain(-1, 0), WHOLE);
        due("plain(0, 9), the OBSERVE dropped", j.plain(0, 9), 2 * part);
        j.weight(TWOS, 0, 60);
        j.weight(TWOS, 1, 0);
        due("plain(-1, 0) by other WEIGHTS", j.plain(-1, 0), WHOLE);
        due("plain(1, 1) by other WEIGHTS", j.plain(1, 1), 0);
        says("20: -1: BAD; -4, -2: as runs()");
        due("plain of 20000", about20000(0).plain(0, 9), WHOLE / 10);
        due("plain of 19999", about20000(-1).plain(4, 1), WHOLE / 20000 * 9999);
        due("plain of 20001", about20000(1).plain(0, 9), FULL);
        due("plain of all 20001", about20000(1).plain(-1, 0), FULL);
        JoinedLists[] objects = {j, about20000(1), uneven(), new JoinedLists()};
        int[] noVariable = {LEAST, -2, 6, 10, MOST};
        int[] noValue = {LEAST, -1, 10, MOST};
        for (JoinedLists o : objects) {
            for (int x : noVariable) {
                due("plain(" + x + ", 0)", o.plain(x, 0), BAD);
            }
            for (int v : noValue) {
                due("plain(0, " + v + ")", o.plain(0, v), BAD);
                due("plain(5, " + v + ")", o.plain(5, v), BAD);
            }
        }
        due("plain(0, 0) of an uneven ROW", uneven().plain(0, 0), UNEVEN);
        due("plain(-1, 0) of an uneven ROW", uneven().plain(-1, 0), UNEVEN);
        JoinedLists both = about20000(1);
        both.weight(TWOS, 1, 31);
        due("plain(0, 0) of an uneven ROW and 20001", both.plain(0, 0), UNEVEN);
        both.weight(TWOS, 0, 29);
        due("plain(0, 0), even again", both.plain(0, 0), FULL);
    }

    private static JoinedLists uneven() {
        JoinedLists j = new JoinedLists();
        j.weight(3, 0, 59);
        j.draw(0, 3);
        return j;
    }

    private static void promise21() {
        says("21: 0 STEPS, 1 DRAWS, 2 WEIGHS, 3 WORK done in this LISTING (0 without)");
        JoinedLists j = ofSteps(8, 3, 30);
        int[] want = {30, 8, 3, 0};
        for (int what = 0; what < 4; what++) {
            due("count(" + what + ")", j.count(what), want[what]);
        }
        j.begin();
        for (int work = 0; work < 30; work++) {
            due("count(3)", j.count(3), work);
            j.list(1);
        }
        due("count(3)", j.count(3), 30);
        j.list(1);
        due("count(3) when there was none to do", j.count(3), 30);
        j.list(0);
        due("count(3) behind a refused list", j.count(3), 30);
        j.begin();
        due("count(3) of a new LISTING", j.count(3), 0);
        j.list(7);
        j.drop();
        due("count(3) without a LISTING", j.count(3), 0);
        j.begin();
        due("count(3) of a LISTING behind it", j.count(3), 0);
        for (int left = 28; left >= 0; left--) {
            j.drop();
            due("count(0)", j.count(0), left);
            due("count(1)", j.count(1), Math.min(8, left));
            due("count(2)", j.count(2), Math.max(0, Math.min(3, left - 8)));
        }
        says("21: BAD");
        int[] none = {LEAST, -1, 4, 5, MOST};
        for (int what : none) {
            due("count(" + what + ")", j.count(what), BAD);
        }
    }

    private static void promise22() {
        says("22: how many STEPS there were");
        int[] lengths = {0, 1, 29, 30};
        for (int steps : lengths) {
            JoinedLists j = ofSteps(0, 0, steps);
            due("clear()", j.clear(), steps);
            due("clear() again", j.clear(), 0);
        }
        says("22: As at the beginning");
        JoinedLists j = withRows();
        for (int i = 0; i < 8; i++) {
            j.draw(i % 6, TWOS);
        }
        for (int i = 0; i < 3; i++) {
            j.weigh(19);
        }
        for (int x = 0; x < 6; x++) {
            j.ask(x, true);
        }
        j.runs();
        j.begin();
        j.list(20);
        due("clear()", j.clear(), 11);
        for (int what = 0; what < 4; what++) {
            due("count(" + what + ")", j.count(what), 0);
        }
        due("done()", j.done(), STATE);
        due("list(1)", j.list(1), STATE);
        due("live(0)", j.live(0), 0);
        due("live(1)", j.live(1), BAD);
        due("drop()", j.drop(), STATE);
        due("runs()", j.runs(), 1);
        due("plain(0, 0)", j.plain(0, 0), WHOLE);
        for (int x = 0; x < 6; x++) {
            due("ask(" + x + ", false)", j.ask(x, false), 0);
        }
        due("begin()", j.begin(), 1);
        due("states(0, 0)", j.states(0, 0), 1);
        due("states(0, 1)", j.states(0, 1), 1);
        due("sum(0, -1, 0)", j.sum(0, -1, 0), WHOLE);
        due("sum(1, -1, 0)", j.sum(1, -1, 0), 0);
        due("draw(0, " + TWOS + ")", j.draw(0, TWOS), 0);
        due("runs() by a ROW as it is at first", j.runs(), 1);
        for (int row = 0; row < 4; row++) {
            for (int v = 0; v < 10; v++) {
                due("weight(" + row + ", " + v + ", 0)", j.weight(row, v, 0), v == 0 ? 60 : 0);
            }
        }
    }

    public static void main(String[] args) {
        promise1();
        promise2();
        promise3();
        promise4();
        promise5();
        promise6();
        promise7();
        promise8();
        promise9();
        promise10();
        promise11();
        promise12();
        promise12NoRoom();
        promise13();
        promise14();
        promise15And16();
        promise17();
        promise18();
        promise18Refusals();
        promise19();
        promise20();
        promise21();
        promise22();
        System.out.println(wrong == 0 ? "all " + looked + " answers are as due" : wrong + " answers are not as due");
        if (wrong != 0) {
            System.exit(1);
        }
    }
}
