import java.util.function.ToLongFunction;

/**
 * The bounds that the document's "What it is" and "Terms" name for several calls at once: a test
 * for each sentence, at its bound, one below it and one above it.
 */
public final class TermBoundsTest {
    private static final long WHOLE = 167961600000000L;
    private static final int BAD = -1, FULL = -2, STATE = -3, UNEVEN = -4, NONE = -5;
    private static final long THROWN = Long.MIN_VALUE;
    private static final int TENS = 0, TWOS = 1, RARE = 2, FIRST = 3;

    private static int wrong = 0;
    private static int looked = 0;
    private static String sentence = "";

    private static void says(String words) {
        sentence = words;
    }

    private static void due(String call, long got, long want) {
        looked++;
        if (got != want) {
            wrong++;
            System.out.println("\"" + sentence + "\": " + call + " answered " + got + ", due is " + want);
        }
    }

    private static long oddsOf(JoinedLists j, int x, int v, int part) {
        try {
            return j.odds(x, v, part);
        } catch (ArithmeticException e) {
            return THROWN;
        }
    }

    /** TENS: ten values of 6. TWOS: 0 and 1 of 30. RARE: 0 of 59, 9 of 1. FIRST: as it is at first. */
    private static JoinedLists withRows() {
        JoinedLists j = new JoinedLists();
        for (int v = 0; v < 10; v++) {
            j.weight(TENS, v, 6);
        }
        j.weight(TWOS, 0, 30);
        j.weight(TWOS, 1, 30);
        j.weight(RARE, 0, 59);
        j.weight(RARE, 9, 1);
        return j;
    }

    private static void askAll(JoinedLists j) {
        for (int x = 0; x < 6; x++) {
            j.ask(x, true);
        }
    }

    private static void listAll(JoinedLists j) {
        due("begin()", j.begin(), 1);
        for (int i = 0; i < 7 && j.done() == 0; i++) {
            j.list(1000);
        }
        due("done()", j.done(), 1);
    }

    /** The code of the one state that is at the end, with all variables asked. */
    private static int codeAtEnd(JoinedLists j) {
        askAll(j);
        listAll(j);
        int end = j.count(0);
        due("states at the end", j.states(end, 0), 1);
        return j.code(end, 0);
    }

    private static int step(JoinedLists j, int kind) {
        switch (kind) {
            case 0:
                return j.draw(0, FIRST);
            case 1:
                return j.set(0, 0, 0, 10);
            case 2:
                return j.observe(0, 0, 0);
            case 3:
                return j.weigh(11);
            default:
                return j.skip(11, 1);
        }
    }

    private static void fill(JoinedLists j, int steps) {
        for (int i = j.count(0); i < steps; i++) {
            j.set(0, 0, 0, 10);
        }
    }

    // ---- a program

    private static void thirtySteps() {
        says("STEPS 0, 1, .. (30 at most)");
        for (int kind = 0; kind < 5; kind++) {
            JoinedLists j = new JoinedLists();
            due("the first STEP of kind " + kind, step(j, kind), 0);
            fill(j, 28);
            due("the 29th STEP of kind " + kind, step(j, kind), 28);
            due("the 30th STEP of kind " + kind, step(j, kind), 29);
            for (int other = 0; other < 5; other++) {
                due("a 31st STEP of kind " + other, step(j, other), FULL);
            }
            due("count(0)", j.count(0), 30);
            due("drop()", j.drop(), 29);
            due("the 30th STEP again, of kind " + kind, step(j, kind), 29);
            due("a 31st STEP again, of kind " + kind, step(j, kind), FULL);
            listAll(j);
            due("the run through 30 STEPS", j.count(3), 30);
            due("its mass", j.mass(30, 0), WHOLE);
        }
        for (int steps = 28; steps <= 30; steps++) {
            JoinedLists j = new JoinedLists();
            for (int i = 1; i < steps; i++) {
                j.set(0, 0, 0, 11);
            }
            due("the last STEP of " + steps, j.set(1, 0, 0, 13), steps - 1);
            int before = (steps - 1) % 10;
            int last = (before + 3) % 10;
            due("what the STEPS make", codeAtEnd(j), before * 100000 + last * 10000);
            due("the plain listing of the STEP ahead", j.plain(0, before), WHOLE);
            due("the plain listing of the last STEP", j.plain(1, last), WHOLE);
        }
    }

    private static void eightDraws() {
        says("8 DRAWS at most");
        JoinedLists j = withRows();
        for (int draw = 0; draw < 8; draw++) {
            due("count(1)", j.count(1), draw);
            due("draw " + (draw + 1), j.draw(draw % 6, TWOS), draw);
        }
        due("count(1)", j.count(1), 8);
        due("a 9th draw", j.draw(0, TWOS), FULL);
        for (int kind = 1; kind < 5; kind++) {
            due("with 8 DRAWS, a STEP of kind " + kind, step(j, kind), 7 + kind);
        }
        due("a 9th draw behind other STEPS", j.draw(0, TWOS), FULL);
        for (int left = 11; left >= 8; left--) {
            due("drop()", j.drop(), left);
        }
        due("a 9th draw, others dropped", j.draw(0, TWOS), FULL);
        due("drop() of the 8th", j.drop(), 7);
        due("count(1)", j.count(1), 7);
        due("the 8th draw again", j.draw(1, TWOS), 7);
        due("a 9th draw again", j.draw(0, TWOS), FULL);
        due("count(1)", j.count(1), 8);
        due("runs()", j.runs(), 256);
        due("clear()", j.clear(), 8);
        for (int draw = 0; draw < 8; draw++) {
            due("behind clear(), draw " + (draw + 1), j.draw(0, FIRST), draw);
        }
        due("behind clear(), a 9th draw", j.draw(0, FIRST), FULL);
    }

    private static void threeWeighs() {
        says("3 WEIGHS at most");
        JoinedLists j = new JoinedLists();
        for (int weigh = 0; weigh < 3; weigh++) {
            due("count(2)", j.count(2), weigh);
            due("weigh " + (weigh + 1), j.weigh(12), weigh);
        }
        due("count(2)", j.count(2), 3);
        due("a 4th weigh", j.weigh(12), FULL);
        int[] others = {0, 1, 2, 4};
        for (int i = 0; i < 4; i++) {
            due("with 3 WEIGHS, a STEP of kind " + others[i], step(j, others[i]), 3 + i);
        }
        due("a 4th weigh behind other STEPS", j.weigh(12), FULL);
        for (int left = 6; left >= 3; left--) {
            due("drop()", j.drop(), left);
        }
        due("a 4th weigh, others dropped", j.weigh(12), FULL);
        due("drop() of the 3rd", j.drop(), 2);
        due("count(2)", j.count(2), 2);
        due("the 3rd weigh again", j.weigh(13), 2);
        due("a 4th weigh again", j.weigh(12), FULL);
        due("plain(-1, 0)", j.plain(-1, 0), WHOLE * 12);
        due("clear()", j.clear(), 3);
        for (int weigh = 0; weigh < 3; weigh++) {
            due("behind clear(), weigh " + (weigh + 1), j.weigh(11), weigh);
        }
        due("behind clear(), a 4th weigh", j.weigh(11), FULL);
    }

    /** Asks a call for each number from low - 2 to high + 2 and beyond; those outside low to high are BAD. */
    private static void dueBad(String call, int low, int high, ToLongFunction<Integer> answer) {
        int[] outside = {Integer.MIN_VALUE, -60, low - 2, low - 1, high + 1, high + 2, 100, Integer.MAX_VALUE};
        for (int n : outside) {
            due(call + " of " + n, answer.applyAsLong(n), BAD);
        }
        for (int n = low; n <= high; n++) {
            due(call + " of " + n + " is fine (1)", answer.applyAsLong(n) != BAD ? 1 : 0, 1);
        }
    }

    private static void variables() {
        says("VARIABLES 0 to 5");
        dueBad("draw", 0, 5, x -> new JoinedLists().draw(x, 0));
        dueBad("set", 0, 5, x -> new JoinedLists().set(x, 0, 10, 10));
        dueBad("ask", 0, 5, x -> new JoinedLists().ask(x, true));
        JoinedLists j = new JoinedLists();
        askAll(j);
        j.begin();
        dueBad("odds", 0, 5, x -> oddsOf(j, x, 0, 0));
        dueBad("sum (-1 is all)", -1, 5, x -> j.sum(0, x, 0));
        dueBad("plain (-1 is any)", -1, 5, x -> j.plain(x, 0));
        JoinedLists own = new JoinedLists();
        for (int x = 0; x < 6; x++) {
            own.set(x, 0, 11 + x, 10);
        }
        due("each VARIABLE has a value of its own", codeAtEnd(own), 123456);
        for (int x = 0; x < 6; x++) {
            due("sum of VARIABLE " + x, own.sum(0, x, x + 1), WHOLE);
            due("odds of VARIABLE " + x, oddsOf(own, x, x + 1, 0), 1);
            due("plain of VARIABLE " + x, own.plain(x, x + 1), WHOLE);
        }
        for (int x = 0; x < 6; x++) {
            due("ask(" + x + ", false)", own.ask(x, false), 1);
            due("live with VARIABLE " + x + " no more asked", own.live(6), 63 - (1 << x));
            due("ask(" + x + ", true)", own.ask(x, true), 0);
        }
    }

    private static void values() {
        says("each 0 to 9");
        dueBad("weight", 0, 9, v -> new JoinedLists().weight(0, v, 0));
        JoinedLists j = new JoinedLists();
        askAll(j);
        j.begin();
        dueBad("odds", 0, 9, v -> oddsOf(j, 0, v, 0));
        dueBad("sum(0, ..)", 0, 9, v -> j.sum(0, 0, v));
        dueBad("sum(2, ..)", 0, 9, v -> j.sum(2, 0, v));
        dueBad("plain", 0, 9, v -> j.plain(0, v));
        for (int v = 0; v < 10; v++) {
            JoinedLists drawn = new JoinedLists();
            drawn.weight(0, 0, 0);
            drawn.weight(0, v, 60);
            drawn.draw(5, 0);
            due("the value drawn", codeAtEnd(drawn), v);
            due("odds of the value " + v, oddsOf(drawn, 5, v, 0), 1);
            due("plain of the value " + v, drawn.plain(5, v), WHOLE);
            due("plain of another one", drawn.plain(5, (v + 1) % 10), 0);
        }
    }

    private static void rows() {
        says("ROWS 0 to 3");
        dueBad("weight", 0, 3, row -> new JoinedLists().weight(row, 0, 60));
        dueBad("draw", 0, 3, row -> new JoinedLists().draw(0, row));
        JoinedLists j = new JoinedLists();
        for (int row = 0; row < 4; row++) {
            j.weight(row, 0, 0);
            j.weight(row, 6 + row, 60);
        }
        for (int row = 0; row < 4; row++) {
            j.draw(row, row);
        }
        due("each ROW has WEIGHTS of its own", codeAtEnd(j), 678900);
    }

    private static void weights() {
        says("WEIGHTS 0 to 60");
        dueBad("weight", 0, 60, w -> new JoinedLists().weight(3, 9, w));
        JoinedLists j = new JoinedLists();
        for (int w = 0; w <= 60; w++) {
            due("what the WEIGHT was", j.weight(2, 5, w), w == 0 ? 0 : w - 1);
        }
        due("a WEIGHT below", j.weight(2, 5, -1), BAD);
        due("a WEIGHT above", j.weight(2, 5, 61), BAD);
        due("what the WEIGHT still is", j.weight(2, 5, 0), 60);
        int[] given = {0, 1, 30, 59, 60};
        for (int w : given) {
            JoinedLists k = new JoinedLists();
            k.weight(1, 0, 60 - w);
            k.weight(1, 9, w);
            k.draw(0, 1);
            k.ask(0, true);
            listAll(k);
            due("mass by a WEIGHT of " + w, k.sum(0, 0, 9), WHOLE / 60 * w);
            due("mass by the rest", k.sum(0, 0, 0), WHOLE / 60 * (60 - w));
        }
    }

    private static void weightsAtFirst() {
        says("at first 60 of 0, 0 of others");
        JoinedLists j = new JoinedLists();
        for (int again = 0; again < 2; again++) {
            for (int row = 0; row < 4; row++) {
                for (int v = 0; v < 10; v++) {
                    due("weight(" + row + ", " + v + ", 7)", j.weight(row, v, 7), v == 0 ? 60 : 0);
                }
            }
            j.clear();
        }
        for (int row = 0; row < 4; row++) {
            JoinedLists k = new JoinedLists();
            k.draw(3, row);
            due("runs() by ROW " + row, k.runs(), 1);
            due("what ROW " + row + " draws", codeAtEnd(k), 0);
        }
    }

    private static void terms() {
        says("A TERM is a VARIABLE (0 to 5), or 10 and a value (10 to 19)");
        for (int t = -3; t <= 23; t++) {
            boolean fine = t >= 0 && t <= 5 || t >= 10 && t <= 19;
            int want = fine ? 0 : BAD;
            due("set(0, 0, " + t + ", 10)", new JoinedLists().set(0, 0, t, 10), want);
            due("set(0, 6, 10, " + t + ")", new JoinedLists().set(0, 6, 10, t), want);
            due("observe(" + t + ", 0, 10)", new JoinedLists().observe(t, 0, 10), want);
            due("observe(10, 3, " + t + ")", new JoinedLists().observe(10, 3, t), want);
            due("weigh(" + t + ")", new JoinedLists().weigh(t), want);
            due("skip(" + t + ", 1)", new JoinedLists().skip(t, 1), want);
        }
        int[] far = {Integer.MIN_VALUE, -2147483638, Integer.MAX_VALUE};
        for (int t : far) {
            due("set(0, 0, " + t + ", 10)", new JoinedLists().set(0, 0, t, 10), BAD);
            due("set(0, 0, 10, " + t + ")", new JoinedLists().set(0, 0, 10, t), BAD);
            due("observe(" + t + ", 0, 10)", new JoinedLists().observe(t, 0, 10), BAD);
            due("observe(10, 0, " + t + ")", new JoinedLists().observe(10, 0, t), BAD);
            due("weigh(" + t + ")", new JoinedLists().weigh(t), BAD);
            due("skip(" + t + ", 1)", new JoinedLists().skip(t, 1), BAD);
        }
        for (int v = 0; v < 10; v++) {
            JoinedLists j = new JoinedLists();
            j.set(0, 0, 10 + v, 10);
            j.set(1, 0, 10, 10 + v);
            j.set(2, 0, 0, 10);
            j.set(3, 0, 10, 1);
            due("what the TERM " + (10 + v) + " is", codeAtEnd(j), v * 111100);
        }
        for (int x = 0; x < 6; x++) {
            JoinedLists j = new JoinedLists();
            j.set(x, 0, 17, 10);
            j.set((x + 1) % 6, 0, x, 10);
            due("what the TERM " + x + " is", codeAtEnd(j), (int) (7 * Math.pow(10, 5 - x) + 7 * Math.pow(10, 5 - (x + 1) % 6)));
        }
    }

    private static void firstState() {
        says("A RUN begins at STEP 0 with all VARIABLES 0 and MASS 60^8");
        JoinedLists j = new JoinedLists();
        due("without STEPS", codeAtEnd(j), 0);
        due("mass(0, 0)", j.mass(0, 0), 60L * 60 * 60 * 60 * 60 * 60 * 60 * 60);
        due("plain(-1, 0)", j.plain(-1, 0), WHOLE);
        for (int x = 0; x < 6; x++) {
            due("plain(" + x + ", 0)", j.plain(x, 0), WHOLE);
            due("plain(" + x + ", 1)", j.plain(x, 1), 0);
            j.observe(x, 0, 10);
        }
        due("behind STEPS that look for 0", codeAtEnd(j), 0);
        due("mass(6, 0)", j.mass(6, 0), WHOLE);
        due("its first STEP is 0", j.states(0, 1), 1);
    }

    private static void places() {
        says("PLACE 0 to as many STEPS as there are: the END");
        int[] lengths = {0, 1, 2, 29, 30};
        for (int steps : lengths) {
            JoinedLists j = new JoinedLists();
            fill(j, steps);
            askAll(j);
            dueBad("live, of " + steps + " STEPS", 0, steps, place -> j.live(place));
            listAll(j);
            dueBad("states, of " + steps + " STEPS", 0, steps, place -> j.states(place, 0));
            dueBad("code, of " + steps + " STEPS", 0, steps, place -> j.code(place, 0));
            due("mass at the END", j.mass(steps, 0), WHOLE);
            due("mass one below", j.mass(steps - 1, 0), 0);
            due("mass one above", j.mass(steps + 1, 0), 0);
            due("code at the END", j.code(steps, 0), 0);
            due("code one below", j.code(steps - 1, 0), steps == 0 ? BAD : NONE);
            due("mass(-1, 0)", j.mass(-1, 0), 0);
        }
        JoinedLists shorter = new JoinedLists();
        fill(shorter, 3);
        shorter.drop();
        due("live(2) behind a drop", shorter.live(2), 0);
        due("live(3) behind a drop", shorter.live(3), BAD);
        shorter.begin();
        due("states(2, 0) behind a drop", shorter.states(2, 0), 0);
        due("states(3, 0) behind a drop", shorter.states(3, 0), BAD);
    }

    // ---- what a step does

    private static void drawsOfWeight() {
        says("a RUN for each value with a WEIGHT above 0, x being that, MASS times WEIGHT, over 60");
        JoinedLists j = new JoinedLists();
        j.weight(0, 0, 0);
        j.weight(0, 1, 1);
        j.weight(0, 8, 2);
        j.weight(0, 9, 57);
        j.draw(5, 0);
        j.ask(5, true);
        due("runs()", j.runs(), 3);
        listAll(j);
        due("states(1, 0)", j.states(1, 0), 3);
        due("states(1, 1)", j.states(1, 1), 3);
        int[] codes = {1, 8, 9};
        long[] parts = {1, 2, 57};
        for (int i = 0; i < 3; i++) {
            due("code(1, " + i + ")", j.code(1, i), codes[i]);
            due("mass(1, " + i + ")", j.mass(1, i), WHOLE / 60 * parts[i]);
            due("plain(5, " + codes[i] + ")", j.plain(5, codes[i]), WHOLE / 60 * parts[i]);
        }
        due("plain of a value with no WEIGHT", j.plain(5, 0), 0);
        JoinedLists ten = withRows();
        ten.draw(0, TENS);
        due("runs() by ten values", ten.runs(), 10);
        JoinedLists eight = withRows();
        for (int i = 0; i < 8; i++) {
            eight.draw(0, RARE);
            eight.observe(0, 0, 19);
        }
        eight.ask(0, true);
        listAll(eight);
        due("WEIGHT 1 eight times leaves a mass of", eight.mass(16, 0), 1);
        due("the plain listing of it", eight.plain(0, 9), 1);
        due("the odds of it", oddsOf(eight, 0, 9, 0), 1);
        due("the odds of it", oddsOf(eight, 0, 9, 1), 1);
        due("sum(0, -1, 0)", eight.sum(0, -1, 0), 1);
        due("sum(1, -1, 0)", eight.sum(1, -1, 0), WHOLE - 1);
        eight.set(0, 0, 0, 12);
        due("the plain listing of it, set", eight.plain(0, 1), 1);
        eight.weigh(17);
        due("the plain listing of it, weighed", eight.plain(-1, 0), 7);
        eight.observe(0, 1, 11);
        due("the plain listing of it, lost", eight.plain(-1, 0), 0);
        eight.drop();
        eight.drop();
        eight.observe(0, 1, 11);
        due("the plain listing of it, lost", eight.plain(-1, 0), 0);
        listAll(eight);
        due("sum(1, -1, 0) of it, lost", eight.sum(1, -1, 0), WHOLE);
        JoinedLists again = withRows();
        again.set(1, 0, 17, 10);
        again.draw(1, TWOS);
        again.ask(1, true);
        listAll(again);
        due("what x was is gone", again.sum(0, 1, 7), 0);
        due("what x is now", again.sum(0, 1, 1), WHOLE / 2);
    }

    private static int setTo(int op, int a, int b, int x) {
        JoinedLists j = new JoinedLists();
        j.set(0, 0, 10 + x, 10);
        j.set(1, 0, 10 + a, 10);
        j.set(2, 0, 10 + b, 10);
        j.set(0, op, 1, 2);
        int code = codeAtEnd(j);
        due("set leaves a and b", code % 100000, a * 10000 + b * 1000);
        due("plain of what is set", j.plain(0, code / 100000), WHOLE);
        return code / 100000;
    }

    private static void dueSets(int op, int[][] cases) {
        for (int[] c : cases) {
            due("set by " + op + " of " + c[0] + ", " + c[1] + " (x was 6)", setTo(op, c[0], c[1], 6), c[2]);
        }
    }

    private static void sets() {
        says("by op 0 their sum, modulo 10 (0 .. 9)");
        dueSets(0, new int[][] {{0, 0, 0}, {4, 4, 8}, {4, 5, 9}, {5, 5, 0}, {9, 0, 9}, {0, 9, 9}, {9, 1, 0}, {1, 9, 0}, {9, 2, 1}, {9, 9, 8}});
        says("by op 1 their difference, modulo 10 (0 .. 9)");
        dueSets(1, new int[][] {{0, 0, 0}, {9, 9, 0}, {9, 0, 9}, {1, 0, 1}, {0, 1, 9}, {0, 9, 1}, {5, 4, 1}, {4, 5, 9}, {8, 9, 9}, {9, 8, 1}});
        says("by op 2 their product, modulo 10 (0 .. 9)");
        dueSets(2, new int[][] {{0, 0, 0}, {0, 9, 0}, {9, 0, 0}, {1, 9, 9}, {9, 1, 9}, {3, 3, 9}, {2, 5, 0}, {5, 2, 0}, {3, 4, 2}, {9, 9, 1}});
        says("3 the lesser one");
        dueSets(3, new int[][] {{0, 0, 0}, {4, 5, 4}, {5, 4, 4}, {5, 5, 5}, {0, 9, 0}, {9, 0, 0}, {9, 9, 9}});
        says("4 the greater one");
        dueSets(4, new int[][] {{0, 0, 0}, {4, 5, 5}, {5, 4, 5}, {5, 5, 5}, {0, 9, 9}, {9, 0, 9}, {9, 9, 9}});
        says("5: 1, if they are alike, else 0");
        dueSets(5, new int[][] {{0, 0, 1}, {9, 9, 1}, {4, 4, 1}, {4, 5, 0}, {5, 4, 0}, {0, 9, 0}, {9, 0, 0}});
        says("6: a, if b is 0, else x as it is");
        dueSets(6, new int[][] {{0, 0, 0}, {3, 0, 3}, {9, 0, 9}, {3, 1, 6}, {3, 9, 6}, {0, 1, 6}, {6, 0, 6}});
        says("SET x to a and b: by op 0 .. 6");
        dueBad("set by op", 0, 6, op -> new JoinedLists().set(0, op, 10, 10));
    }

    private static void observes() {
        int[][] pairs = {{0, 0}, {9, 9}, {4, 4}, {4, 5}, {5, 4}, {0, 9}, {9, 0}, {0, 1}, {1, 0}};
        String[] words = {"0 they are alike", "1 not alike", "2 a is less", "3 a is greater"};
        for (int cmp = 0; cmp < 4; cmp++) {
            says("the RUN is LOST unless by cmp " + words[cmp]);
            for (int[] p : pairs) {
                int a = p[0];
                int b = p[1];
                boolean stays = cmp == 0 ? a == b : cmp == 1 ? a != b : cmp == 2 ? a < b : a > b;
                JoinedLists j = new JoinedLists();
                j.set(3, 0, 10 + a, 10);
                j.observe(3, cmp, 10 + b);
                listAll(j);
                due("states at the END of " + a + ", " + b, j.states(2, 0), stays ? 1 : 0);
                due("sum(0, -1, 0) of " + a + ", " + b, j.sum(0, -1, 0), stays ? WHOLE : 0);
                due("sum(1, -1, 0) of " + a + ", " + b, j.sum(1, -1, 0), stays ? 0 : WHOLE);
                due("plain(-1, 0) of " + a + ", " + b, j.plain(-1, 0), stays ? WHOLE : 0);
                due("runs() of " + a + ", " + b, j.runs(), 1);
            }
        }
        says("OBSERVE a and b: by cmp 0 .. 3");
        dueBad("observe by cmp", 0, 3, cmp -> new JoinedLists().observe(10, cmp, 10));
    }

    private static void weighs() {
        says("WEIGH a: MASS times it; it is LOST, if that is 0");
        for (int a = 0; a < 10; a++) {
            JoinedLists j = new JoinedLists();
            j.set(2, 0, 10 + a, 10);
            j.weigh(2);
            j.set(1, 0, 11, 10);
            listAll(j);
            due("states behind WEIGH of " + a, j.states(2, 1), a == 0 ? 0 : 1);
            due("states at the END behind WEIGH of " + a, j.states(3, 0), a == 0 ? 0 : 1);
            due("mass behind WEIGH of " + a, j.mass(3, 0), WHOLE * a);
            due("LOST by WEIGH of " + a, j.sum(1, -1, 0), a == 0 ? WHOLE : 0);
            due("WORK with WEIGH of " + a, j.count(3), a == 0 ? 2 : 3);
            due("plain(-1, 0) with WEIGH of " + a, j.plain(-1, 0), WHOLE * a);
            due("runs() with WEIGH of " + a, j.runs(), 1);
        }
        JoinedLists most = new JoinedLists();
        most.weigh(19);
        most.weigh(19);
        most.weigh(19);
        for (int i = 0; i < 8; i++) {
            most.draw(0, 0);
        }
        most.ask(0, true);
        listAll(most);
        due("9 three times, drawn eight times by 60", most.mass(11, 0), WHOLE * 729);
        due("the plain listing of it", most.plain(0, 0), WHOLE * 729);
    }

    /** A skip at step 0, then as many steps that add 1 to variable 0. */
    private static int passedTo(int a, int n, int steps) {
        JoinedLists j = new JoinedLists();
        due("skip", j.skip(10 + a, n), 0);
        for (int i = 0; i < steps; i++) {
            j.set(0, 0, 0, 11);
        }
        int code = codeAtEnd(j);
        due("WORK done", j.count(3), 1 + code / 100000);
        due("the plain listing of it", j.plain(0, code / 100000), WHOLE);
        return code / 100000;
    }

    private static void skips() {
        says("SKIP a, n (1 to 9)");
        dueBad("skip by n", 1, 9, n -> new JoinedLists().skip(10, n));
        says("if a is 0, the next n STEPS are passed over (the END at most)");
        for (int n = 1; n <= 9; n++) {
            int[] lengths = {0, 1, n - 1, n, n + 1, 9};
            for (int steps : lengths) {
                due("STEPS done of " + steps + ", n being " + n, passedTo(0, n, steps), Math.max(0, steps - n));
            }
        }
        for (int a = 1; a <= 9; a++) {
            due("STEPS done, a being " + a, passedTo(a, 9, 5), 5);
        }
        JoinedLists last = new JoinedLists();
        fill(last, 29);
        last.skip(10, 9);
        listAll(last);
        due("a SKIP as the 30th STEP comes to the END", last.states(30, 1), 1);
        JoinedLists grown = new JoinedLists();
        grown.skip(10, 3);
        grown.set(0, 0, 0, 11);
        due("the END of 2 STEPS", codeAtEnd(grown), 0);
        for (int i = 0; i < 3; i++) {
            grown.set(0, 0, 0, 11);
        }
        due("the END moves on with the STEPS", codeAtEnd(grown), 100000);
        grown.drop();
        due("the END moves back with the STEPS", codeAtEnd(grown), 0);
    }

    // ---- live and joined

    private static void liveAtTheEnd() {
        says("LIVE at the END are those that are ASKED");
        JoinedLists j = new JoinedLists();
        due("live(0) with nothing asked", j.live(0), 0);
        for (int x = 0; x < 6; x++) {
            j.ask(x, true);
            due("live(0) with 0 to " + x + " asked", j.live(0), (2 << x) - 1);
        }
        for (int x = 0; x < 6; x++) {
            j.ask(x, false);
            due("live(0) with 0 to " + x + " no more asked", j.live(0), 63 - ((2 << x) - 1));
        }
    }

    private static int liveAheadOf(int asked, ToLongFunction<JoinedLists> step) {
        JoinedLists j = new JoinedLists();
        for (int x = 0; x < 6; x++) {
            j.ask(x, (asked & 1 << x) != 0);
        }
        step.applyAsLong(j);
        due("live(1)", j.live(1), asked);
        return j.live(0);
    }

    private static void liveAtSteps() {
        says("LIVE at a STEP are those that it reads, those LIVE behind it, but the one that DRAW, SET gives");
        due("DRAW gives what is asked", liveAheadOf(8, j -> j.draw(3, 0)), 0);
        due("DRAW gives what is not asked", liveAheadOf(8, j -> j.draw(2, 0)), 8);
        for (int op = 0; op < 6; op++) {
            int by = op;
            due("SET by " + op + " gives what is asked", liveAheadOf(8, j -> j.set(3, by, 10, 19)), 0);
            due("SET by " + op + " reads both", liveAheadOf(8, j -> j.set(3, by, 0, 5)), 33);
            due("SET by " + op + " reads what it gives", liveAheadOf(8, j -> j.set(3, by, 3, 5)), 40);
            due("SET by " + op + " gives what is not asked", liveAheadOf(8, j -> j.set(2, by, 0, 5)), 41);
        }
        due("OBSERVE reads both", liveAheadOf(8, j -> j.observe(0, 0, 5)), 41);
        due("OBSERVE of values reads none", liveAheadOf(8, j -> j.observe(10, 0, 19)), 8);
        due("WEIGH reads", liveAheadOf(8, j -> j.weigh(5)), 40);
        due("WEIGH by a value reads none", liveAheadOf(8, j -> j.weigh(19)), 8);
        due("SKIP reads", liveAheadOf(8, j -> j.skip(4, 1)), 24);
        due("SKIP by a value reads none", liveAheadOf(8, j -> j.skip(10, 1)), 8);
        says("SET by 6: x, too");
        due("SET by 6 keeps what is asked", liveAheadOf(8, j -> j.set(3, 6, 10, 19)), 8);
        due("SET by 6 reads what is not asked", liveAheadOf(8, j -> j.set(2, 6, 10, 10)), 12);
        due("SET by 6 reads all three", liveAheadOf(8, j -> j.set(2, 6, 0, 5)), 45);
    }

    private static void liveAtSkips() {
        says("of SKIP, those LIVE where it may go to (both places, whatever its TERM is)");
        int[] terms = {10, 11, 19};
        for (int term : terms) {
            for (int n = 1; n <= 4; n++) {
                JoinedLists j = new JoinedLists();
                j.skip(term, n);
                j.set(0, 0, 1, 10);
                j.set(1, 0, 10, 10);
                j.set(2, 0, 10, 10);
                j.ask(0, true);
                j.ask(1, true);
                j.ask(2, true);
                int[] behind = {0, 1 << 0, 1 << 0 | 1 << 1, 7, 7};
                due("live(0) by SKIP " + term + ", " + n, j.live(0), 1 << 1 | behind[n]);
                due("live(1)", j.live(1), 1 << 1);
                due("live(2)", j.live(2), 1 << 0);
                due("live(3)", j.live(3), 3);
            }
        }
    }

    private static void codes() {
        says("its CODE is their values as digits, VARIABLE 0 the first (others count as 0)");
        for (int x = 0; x < 6; x++) {
            JoinedLists j = new JoinedLists();
            j.set(x, 0, 19, 10);
            int place = (int) Math.pow(10, 5 - x);
            due("the code of 9 in VARIABLE " + x, codeAtEnd(j), 9 * place);
            j.ask(x, false);
            listAll(j);
            due("the code, VARIABLE " + x + " not LIVE", j.code(1, 0), 0);
        }
        JoinedLists nines = new JoinedLists();
        for (int x = 0; x < 6; x++) {
            nines.set(x, 0, 19, 10);
        }
        due("the greatest code", codeAtEnd(nines), 999999);
        JoinedLists mixed = new JoinedLists();
        for (int x = 0; x < 6; x++) {
            mixed.set(x, 0, 14 + x, 10);
        }
        askAll(mixed);
        mixed.ask(1, false);
        mixed.ask(4, false);
        listAll(mixed);
        due("a code with two that are not LIVE", mixed.code(6, 0), 406709);
        due("sum of one that is not LIVE: it counts as 0", mixed.sum(0, 1, 0), WHOLE);
        due("sum of one that is not LIVE", mixed.sum(0, 1, 5), 0);
    }

    private static void joined() {
        says("RUNS that come to a PLACE with one CODE are JOINED: one STATE, MASSES added");
        JoinedLists j = withRows();
        j.draw(0, TENS);
        j.set(1, 3, 0, 11);
        j.ask(1, true);
        listAll(j);
        due("states(1, 0), all gone on", j.states(1, 0), 0);
        due("comes of ten codes", j.states(1, 1), 10);
        due("joined of ten codes", j.states(1, 2), 0);
        due("states of two codes", j.states(2, 0), 2);
        due("comes of two codes", j.states(2, 1), 10);
        due("joined of two codes", j.states(2, 2), 8);
        due("the mass of one", j.mass(2, 0), WHOLE / 10);
        due("the mass of nine", j.mass(2, 1), WHOLE / 10 * 9);
        j.ask(0, true);
        listAll(j);
        due("states of ten codes", j.states(2, 0), 10);
        due("none joined", j.states(2, 2), 0);
        says("behind a WEIGH, DRAW: what came of each STATE");
        JoinedLists weighed = withRows();
        weighed.draw(0, TENS);
        weighed.weigh(0);
        listAll(weighed);
        due("what nine weighed STATES bring", weighed.mass(2, 0), WHOLE / 10 * 45);
        due("comes behind the WEIGH", weighed.states(2, 1), 9);
        due("joined behind the WEIGH", weighed.states(2, 2), 8);
        JoinedLists drawn = withRows();
        drawn.draw(0, RARE);
        drawn.draw(0, TWOS);
        drawn.ask(0, true);
        listAll(drawn);
        due("comes behind the DRAW", drawn.states(2, 1), 2);
        due("what is not LIVE is joined ahead of it", drawn.states(1, 2), 1);
        due("masses behind the DRAW", drawn.mass(2, 0), WHOLE / 2);
        JoinedLists both = withRows();
        both.draw(0, RARE);
        both.draw(1, TWOS);
        both.set(0, 0, 0, 1);
        both.set(1, 0, 10, 10);
        both.ask(0, true);
        listAll(both);
        due("9 and 1, 0 and 0 are one", both.mass(4, 0), WHOLE / 120 * 60);
        due("0 and 1", both.mass(4, 1), WHOLE / 120 * 59);
        due("9 and 0", both.mass(4, 2), WHOLE / 120);
    }

    // ---- the listing

    private static void listingBegins() {
        says("A LISTING begins with the STATE of CODE 0 at PLACE 0");
        JoinedLists j = withRows();
        j.draw(0, TWOS);
        j.observe(0, 0, 10);
        j.ask(0, true);
        for (int again = 0; again < 3; again++) {
            due("begin()", j.begin(), 1);
            due("states(0, 0)", j.states(0, 0), 1);
            due("states(0, 1)", j.states(0, 1), 1);
            due("states(0, 2)", j.states(0, 2), 0);
            due("code(0, 0)", j.code(0, 0), 0);
            due("mass(0, 0)", j.mass(0, 0), WHOLE);
            due("code(0, 1)", j.code(0, 1), NONE);
            for (int place = 1; place <= 2; place++) {
                for (int what = 0; what < 3; what++) {
                    due("states(" + place + ", " + what + ")", j.states(place, what), 0);
                }
                due("mass(" + place + ", 0)", j.mass(place, 0), 0);
            }
            due("sum(0, -1, 0)", j.sum(0, -1, 0), 0);
            due("sum(1, -1, 0)", j.sum(1, -1, 0), 0);
            due("sum(2, -1, 0)", j.sum(2, -1, 0), WHOLE);
            due("count(3)", j.count(3), 0);
            int most = again == 0 ? 2 : 1000;
            due("list(" + most + ")", j.list(most), again == 0 ? 2 : 3);
        }
        due("sum(1, -1, 0)", j.sum(1, -1, 0), WHOLE / 2);
    }

    private static void workGoesByPlaceThenCode() {
        says("of the least PLACE that has STATES, but the END, that of the least CODE goes");
        JoinedLists j = withRows();
        j.draw(5, TENS);
        j.set(0, 1, 10, 5);
        j.set(1, 0, 0, 10);
        j.ask(0, true);
        j.begin();
        j.list(1);
        for (int v = 0; v < 10; v++) {
            due("the least code at PLACE 1", j.code(1, 0), v);
            due("list(1)", j.list(1), 1);
            due("states left at PLACE 1", j.states(1, 0), 9 - v);
            due("states at PLACE 2", j.states(2, 0), v + 1);
        }
        for (int v = 0; v < 10; v++) {
            due("the least code at PLACE 2", j.code(2, 0), v * 100000);
            due("list(1)", j.list(1), 1);
        }
        due("done()", j.done(), 1);
        due("states at the END stay", j.states(3, 0), 10);
        JoinedLists ahead = withRows();
        ahead.draw(0, TWOS);
        ahead.skip(0, 1);
        ahead.set(1, 0, 11, 10);
        ahead.set(2, 0, 11, 10);
        ahead.ask(0, true);
        ahead.begin();
        ahead.list(3);
        due("one waits at PLACE 2", ahead.states(2, 0), 1);
        due("one waits at PLACE 3", ahead.states(3, 0), 1);
        ahead.list(1);
        due("PLACE 2 goes first", ahead.states(2, 0), 0);
        due("and comes to PLACE 3", ahead.states(3, 0), 2);
        ahead.list(1);
        due("then the least code of PLACE 3", ahead.code(3, 0), 100000);
        due("which is at the END", ahead.code(4, 0), 0);
    }

    /**
     * Up to 201 states come to the end one by one: the first, that skipped there, has the values
     * given; 200 others are of all values of 0 and 1 and of 0 and 1 in 2.
     */
    private static JoinedLists oneBesides200(int first, int second, int third, boolean apart) {
        JoinedLists j = withRows();
        j.set(0, 0, 10 + first, 10);
        j.set(1, 0, 10 + second, 10);
        j.set(2, 0, 10 + third, 10);
        j.draw(3, TWOS);
        j.skip(3, 4);
        j.draw(0, TENS);
        j.draw(1, TENS);
        j.draw(2, TWOS);
        j.set(4, 0, 4, 10);
        for (int x = 0; x < 3; x++) {
            j.ask(x, true);
        }
        j.ask(3, apart);
        due("begin()", j.begin(), 1);
        return j;
    }

    private static void twoHundredStates() {
        says("200 STATES are at a PLACE at most");
        JoinedLists j = oneBesides200(0, 0, 0, true);
        int ahead = 4 + 2 + 1 + 10 + 100;
        due("list(..) till 199 are at the END", j.list(ahead + 198), ahead + 198);
        due("states(9, 0)", j.states(9, 0), 199);
        due("done() with 199", j.done(), 0);
        due("list(1)", j.list(1), 1);
        due("states(9, 0)", j.states(9, 0), 200);
        due("done() with 200, another to come", j.done(), 2);
        due("list(1)", j.list(1), 0);
        due("list(1000)", j.list(1000), 0);
        due("states(9, 0)", j.states(9, 0), 200);
        due("states(9, 1)", j.states(9, 1), 200);
        due("the one that waits", j.code(8, 0), 991100);
        due("its mass", j.mass(8, 0), WHOLE / 400);
        due("sum(2, -1, 0)", j.sum(2, -1, 0), WHOLE / 400);
        due("sum(0, -1, 0)", j.sum(0, -1, 0), WHOLE - WHOLE / 400);
        due("code(9, 199)", j.code(9, 199), 990100);
        due("code(9, 200)", j.code(9, 200), NONE);
        due("mass(9, 199)", j.mass(9, 199), WHOLE / 400);
        due("mass(9, 200)", j.mass(9, 200), 0);
        due("count(3)", j.count(3), ahead + 199);
        JoinedLists last = oneBesides200(9, 9, 1, false);
        due("list(..) till 200 are there", last.list(ahead + 199), ahead + 199);
        due("states(9, 0)", last.states(9, 0), 200);
        due("done(), as the next one is JOINED", last.done(), 0);
        due("list(1000)", last.list(1000), 1);
        due("done()", last.done(), 1);
        due("states(9, 0)", last.states(9, 0), 200);
        due("states(9, 1)", last.states(9, 1), 201);
        due("states(9, 2)", last.states(9, 2), 1);
        due("mass(9, 199)", last.mass(9, 199), WHOLE / 2 + WHOLE / 400);
    }

    private static void roomForAllThatComes() {
        says("a PLACE has no room for all that would come of the next one (that is not done)");
        JoinedLists j = withRows();
        j.draw(3, TWOS);
        j.skip(3, 3);
        j.draw(0, TENS);
        j.draw(1, TENS);
        j.draw(2, TWOS);
        for (int x = 0; x < 4; x++) {
            j.ask(x, true);
        }
        j.begin();
        due("list(1000)", j.list(1000), 1 + 2 + 1 + 10 + 99);
        due("199 at the END, two would come", j.states(5, 0), 199);
        due("done()", j.done(), 2);
        due("list(1)", j.list(1), 0);
        due("none of the two has come", j.states(5, 1), 199);
        due("the one that waits", j.code(4, 0), 990100);
        JoinedLists ten = withRows();
        ten.draw(0, TENS);
        ten.draw(1, TWOS);
        ten.draw(2, TENS);
        ten.ask(0, true);
        ten.ask(1, true);
        ten.ask(2, true);
        ten.begin();
        due("list(..) till 190 are there", ten.list(1 + 10 + 19), 30);
        due("states(3, 0)", ten.states(3, 0), 190);
        due("done() with room for just ten", ten.done(), 0);
        due("list(1000)", ten.list(1000), 1);
        due("states(3, 0)", ten.states(3, 0), 200);
        due("done()", ten.done(), 1);
        JoinedLists dead = oneBesides200(0, 0, 0, true);
        dead.drop();
        dead.draw(4, TENS);
        dead.begin();
        int ahead = 4 + 2 + 1 + 10 + 100;
        due("ten values of what is not LIVE need room for one", dead.list(1000), ahead + 199);
        due("states(9, 0)", dead.states(9, 0), 200);
        due("states(9, 1)", dead.states(9, 1), 1 + 1990);
        due("done()", dead.done(), 2);
        dead.ask(3, false);
        dead.begin();
        dead.list(1000);
        due("and none, where all are JOINED", dead.done(), 1);
        due("states(9, 0)", dead.states(9, 0), 200);
    }

    /** 200 states have skipped to the end when the one that skipped to step 7 comes to another skip, by variable 4. */
    private static JoinedLists twoWaysOn(int value) {
        JoinedLists j = withRows();
        j.set(4, 0, 10 + value, 10);
        j.draw(3, TWOS);
        j.skip(3, 4);
        j.draw(0, TENS);
        j.draw(1, TENS);
        j.draw(2, TWOS);
        j.skip(10, 9);
        j.skip(4, 1);
        j.set(5, 0, 5, 10);
        for (int x = 0; x < 4; x++) {
            j.ask(x, true);
        }
        j.begin();
        return j;
    }

    private static void roomWhereItGoes() {
        says("a PLACE has no room for all that would come of the next one: the PLACE that it comes to");
        int ahead = 1 + 1 + 2 + 1 + 10 + 100 + 200;
        JoinedLists over = twoWaysOn(0);
        due("list(1000)", over.list(1000), ahead);
        due("states(9, 0)", over.states(9, 0), 200);
        due("it would pass over to the END", over.states(7, 0), 1);
        due("done()", over.done(), 2);
        JoinedLists on = twoWaysOn(1);
        due("list(..) till 200 are at the END", on.list(ahead), ahead);
        due("it would go on to PLACE 8", on.states(7, 0), 1);
        due("done()", on.done(), 0);
        due("list(1000)", on.list(1000), 1);
        due("states(8, 0)", on.states(8, 0), 1);
        due("done() with the END ahead", on.done(), 2);
    }

    /** Of 200 states the greatest has the mass 60, and it alone draws once more: by WEIGHTS 59 and 1. */
    private static void roomForTheLeastMass() {
        says("a PLACE has no room for all that would come of the next one: be its MASS as little as it may");
        JoinedLists j = withRows();
        j.weight(TENS, 0, 11);
        j.weight(TENS, 9, 1);
        for (int i = 0; i < 4; i++) {
            j.draw(3, RARE);
            j.observe(3, 0, 19);
        }
        j.draw(0, TENS);
        j.draw(1, TENS);
        j.draw(2, RARE);
        j.set(4, 3, 0, 1);
        j.set(4, 3, 4, 2);
        j.set(4, 5, 4, 19);
        j.skip(4, 1);
        j.draw(5, RARE);
        askAll(j);
        j.begin();
        for (int i = 0; i < 6; i++) {
            j.list(1000);
        }
        due("states at the END", j.states(16, 0), 199);
        due("the mass of the one that waits", j.mass(15, 0), 60);
        due("its code", j.code(15, 0), 999910);
        due("done()", j.done(), 2);
        due("states(16, 1)", j.states(16, 1), 199);
    }

    /** Variable 4 is 0 for the greatest of the 200 states alone, and the step behind loses it, or not. */
    private static JoinedLists lastIsLost(boolean byWeigh) {
        JoinedLists j = oneBesides200(0, 0, 0, true);
        j.drop();
        for (int left = 7; left >= 4; left--) {
            j.drop();
        }
        j.skip(3, 8);
        j.draw(0, TENS);
        j.draw(1, TENS);
        j.draw(2, TWOS);
        j.set(4, 3, 0, 1);
        j.set(4, 5, 4, 19);
        j.set(4, 2, 4, 2);
        j.set(4, 5, 4, 10);
        if (byWeigh) {
            j.weigh(4);
        } else {
            j.observe(4, 1, 10);
        }
        j.begin();
        return j;
    }

    private static void lostNeedsNoRoom() {
        says("a PLACE has no room for all that would come of the next one: of a LOST one nothing comes");
        for (int kind = 0; kind < 2; kind++) {
            JoinedLists j = lastIsLost(kind == 1);
            int all = 4 + 2 + 1 + 10 + 100 + 5 * 200;
            due("list(1000)", j.list(1000), 1000);
            due("list(..) till 200 are there", j.list(all - 1 - 1000), all - 1 - 1000);
            due("states(13, 0)", j.states(13, 0), 200);
            due("the one that waits", j.code(12, 0), 991100);
            due("done(), as nothing comes of the next one", j.done(), 0);
            due("list(1000)", j.list(1000), 1);
            due("done()", j.done(), 1);
            due("sum(1, -1, 0)", j.sum(1, -1, 0), WHOLE / 400);
        }
    }

    private static void doneWhenNoneButAtTheEnd() {
        says("It is DONE, when there are none but at the END");
        JoinedLists none = new JoinedLists();
        none.begin();
        due("done() without STEPS", none.done(), 1);
        due("list(1) without STEPS", none.list(1), 0);
        JoinedLists j = new JoinedLists();
        fill(j, 30);
        j.begin();
        due("done() at PLACE 0", j.done(), 0);
        due("list(29)", j.list(29), 29);
        due("states(29, 0)", j.states(29, 0), 1);
        due("done() one ahead of the END", j.done(), 0);
        due("list(1)", j.list(1), 1);
        due("done() at the END", j.done(), 1);
        due("states(30, 0)", j.states(30, 0), 1);
        JoinedLists lost = new JoinedLists();
        lost.observe(10, 1, 10);
        fill(lost, 3);
        lost.begin();
        due("done() ahead of what loses all", lost.done(), 0);
        due("list(1000)", lost.list(1000), 1);
        due("done() with none at all", lost.done(), 1);
        due("states at the END", lost.states(3, 0), 0);
    }

    private static void dueEnded(String by, JoinedLists j) {
        due("done() behind " + by, j.done(), STATE);
        due("list(1) behind " + by, j.list(1), STATE);
        due("states(0, 0) behind " + by, j.states(0, 0), STATE);
        due("code(0, 0) behind " + by, j.code(0, 0), STATE);
        for (int place = 0; place <= 3; place++) {
            due("mass(" + place + ", 0) behind " + by, j.mass(place, 0), 0);
        }
        due("sum(0, -1, 0) behind " + by, j.sum(0, -1, 0), STATE);
        due("sum(1, -1, 0) behind " + by, j.sum(1, -1, 0), STATE);
        due("sum(2, 0, 0) behind " + by, j.sum(2, 0, 0), STATE);
        due("count(3) behind " + by, j.count(3), 0);
    }

    private static JoinedLists inTheMiddle() {
        JoinedLists j = withRows();
        j.draw(0, TWOS);
        j.set(1, 0, 0, 12);
        j.ask(1, true);
        j.begin();
        due("list(2)", j.list(2), 2);
        due("done()", j.done(), 0);
        return j;
    }

    private static void dueEnds(String name, long want, ToLongFunction<JoinedLists> change) {
        JoinedLists j = inTheMiddle();
        due(name, change.applyAsLong(j), want);
        dueEnded(name, j);
        due("begin() behind " + name, j.begin(), 1);
        due("count(3) of the new one", j.count(3), 0);
    }

    private static void whatEndsTheListing() {
        says("Whatever changes STEPS, WEIGHTS, what is ASKED (also to the same) ends the LISTING");
        dueEnds("weight", 0, j -> j.weight(TENS, 0, 0) - 6);
        dueEnds("weight to the same", 30, j -> j.weight(TWOS, 0, 30));
        dueEnds("weight of 0 to the same", 0, j -> j.weight(TWOS, 5, 0));
        dueEnds("draw", 2, j -> j.draw(0, TWOS));
        dueEnds("set", 2, j -> j.set(0, 0, 0, 0));
        dueEnds("observe", 2, j -> j.observe(0, 0, 0));
        dueEnds("weigh", 2, j -> j.weigh(0));
        dueEnds("skip", 2, j -> j.skip(0, 1));
        dueEnds("drop", 1, j -> j.drop());
        dueEnds("ask", 0, j -> j.ask(5, true));
        dueEnds("ask to the same", 1, j -> j.ask(1, true));
        dueEnds("ask no more", 1, j -> j.ask(1, false));
        dueEnds("ask not, as before", 0, j -> j.ask(5, false));
        dueEnds("clear", 2, j -> j.clear());
        JoinedLists asked = inTheMiddle();
        asked.ask(1, true);
        due("odds behind ask", oddsOf(asked, 1, 2, 0), STATE);
        says("Whatever changes .. ends the LISTING: questions change nothing");
        JoinedLists j = inTheMiddle();
        for (int place = 0; place <= 2; place++) {
            j.live(place);
            j.states(place, place);
            j.code(place, 0);
            j.mass(place, 0);
            j.sum(place, -1, 0);
        }
        oddsOf(j, 1, 2, 0);
        j.runs();
        j.plain(1, 2);
        j.count(3);
        due("done()", j.done(), 0);
        due("count(3)", j.count(3), 2);
        due("list(1000)", j.list(1000), 1);
        due("done()", j.done(), 1);
    }

    private static void lastCalls() {
        says("An object is used for at most 512 calls after it has been made");
        JoinedLists j = withRows();
        int calls = 14;
        for (; calls < 500; calls += 2) {
            j.draw(0, TENS);
            j.drop();
        }
        due("call 501", j.draw(0, TENS), 0);
        due("call 502", j.draw(1, TENS), 1);
        due("call 503", j.ask(0, true), 0);
        due("call 504", j.ask(1, true), 0);
        due("call 505", j.begin(), 1);
        due("call 506", j.list(1000), 11);
        due("call 507", j.states(2, 0), 100);
        due("call 508", j.code(2, 99), 990000);
        due("call 509", j.mass(2, 99), WHOLE / 100);
        due("call 510", j.runs(), 100);
        due("call 511", j.plain(0, 9), WHOLE / 10);
        due("call 512", oddsOf(j, 0, 9, 1), 10);
    }

    public static void main(String[] args) {
        thirtySteps();
        eightDraws();
        threeWeighs();
        variables();
        values();
        rows();
        weights();
        weightsAtFirst();
        terms();
        firstState();
        places();
        drawsOfWeight();
        sets();
        observes();
        weighs();
        skips();
        liveAtTheEnd();
        liveAtSteps();
        liveAtSkips();
        codes();
        joined();
        listingBegins();
        workGoesByPlaceThenCode();
        twoHundredStates();
        roomForAllThatComes();
        roomWhereItGoes();
        roomForTheLeastMass();
        lostNeedsNoRoom();
        doneWhenNoneButAtTheEnd();
        whatEndsTheListing();
        lastCalls();
        System.out.println(wrong == 0 ? "all " + looked + " answers are as due" : wrong + " answers are not as due");
        if (wrong != 0) {
            System.exit(1);
        }
    }
}
