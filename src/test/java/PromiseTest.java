/** For each promise of the document: ordinary inputs, the edges that it names, and wrong inputs. */
public final class PromiseTest {
    private static final long WHOLE = 167961600000000L;
    private static final int BAD = -1, FULL = -2, STATE = -3, UNEVEN = -4, NONE = -5;
    private static final long THROWN = Long.MIN_VALUE;
    private static final int[] BEYOND = {Integer.MIN_VALUE, Integer.MAX_VALUE};

    private static int wrong = 0;
    private static int looked = 0;

    private static void due(String call, long got, long want) {
        looked++;
        if (got != want) {
            wrong++;
            System.out.println(call + " answered " + got + ", due is " + want);
        }
    }

    private static void dueAll(String call, long want, long... got) {
        for (int i = 0; i < got.length; i++) {
            due(call + " [" + i + "]", got[i], want);
        }
    }

    private static long oddsOf(JoinedLists j, int x, int v, int part) {
        try {
            return j.odds(x, v, part);
        } catch (ArithmeticException e) {
            return THROWN;
        }
    }

    /** Row 0: ten values of 6. Row 1: 0 and 1 of 30. Row 2: 1 of 10, 2 of 20, 7 of 30. Row 3: as it was. */
    private static JoinedLists withRows() {
        JoinedLists j = new JoinedLists();
        for (int v = 0; v < 10; v++) {
            j.weight(0, v, 6);
        }
        j.weight(1, 0, 30);
        j.weight(1, 1, 30);
        j.weight(2, 0, 0);
        j.weight(2, 1, 10);
        j.weight(2, 2, 20);
        j.weight(2, 7, 30);
        return j;
    }

    private static void listAll(JoinedLists j) {
        due("begin", j.begin(), 1);
        for (int i = 0; i < 7 && j.done() == 0; i++) {
            j.list(1000);
        }
        due("done", j.done(), 1);
    }

    private static void promise1NewObject() {
        JoinedLists j = new JoinedLists();
        for (int what = 0; what <= 3; what++) {
            due("new: count(" + what + ")", j.count(what), 0);
        }
        due("new: done", j.done(), STATE);
        due("new: live(0)", j.live(0), 0);
        due("new: live(1)", j.live(1), BAD);
        due("new: drop", j.drop(), STATE);
        for (int x = 0; x < 6; x++) {
            due("new: ask", j.ask(x, false), 0);
        }
        for (int row = 0; row < 4; row++) {
            for (int v = 0; v < 10; v++) {
                due("new: weight", j.weight(row, v, 5), v == 0 ? 60 : 0);
            }
        }
        due("new: runs", new JoinedLists().runs(), 1);
        due("new: clear", new JoinedLists().clear(), 0);
    }

    private static void promise2Weight() {
        JoinedLists j = new JoinedLists();
        due("weight", j.weight(1, 2, 60), 0);
        due("weight again", j.weight(1, 2, 7), 60);
        due("weight of another row", j.weight(3, 2, 0), 0);
        due("weight of another value", j.weight(1, 9, 1), 0);
        dueAll("weight", BAD, j.weight(-1, 2, 1), j.weight(4, 2, 1), j.weight(1, -1, 1), j.weight(1, 10, 1),
                j.weight(1, 2, -1), j.weight(1, 2, 61));
        for (int far : BEYOND) {
            dueAll("weight far off", BAD, j.weight(far, 2, 1), j.weight(1, far, 1), j.weight(1, 2, far));
        }
        due("weight behind refusals", j.weight(1, 2, 7), 7);
        j.begin();
        dueAll("weight", BAD, j.weight(4, 0, 60), j.weight(0, 10, 0), j.weight(0, 0, 61));
        due("a refused weight leaves the listing", j.done(), 1);
        j.weight(0, 0, 60);
        due("a weight set to the same ends the listing", j.done(), STATE);
        JoinedLists changed = withRows();
        changed.draw(0, 1);
        due("runs by two values", changed.runs(), 2);
        changed.weight(1, 1, 0);
        changed.weight(1, 0, 60);
        due("runs by the row as it is now", changed.runs(), 1);
    }

    private static void promise3Draw() {
        JoinedLists j = withRows();
        dueAll("draw", BAD, j.draw(-1, 0), j.draw(6, 0), j.draw(0, -1), j.draw(0, 4), j.draw(10, 0));
        for (int far : BEYOND) {
            dueAll("draw far off", BAD, j.draw(far, 0), j.draw(0, far));
        }
        due("count behind refusals", j.count(0), 0);
        due("draw", j.draw(3, 2), 0);
        j.ask(3, true);
        listAll(j);
        due("states drawn", j.states(1, 0), 3);
        due("code drawn", j.code(1, 0), 100);
        due("code drawn", j.code(1, 1), 200);
        due("code drawn", j.code(1, 2), 700);
        due("mass drawn", j.mass(1, 0), WHOLE / 6);
        due("mass drawn", j.mass(1, 1), WHOLE / 3);
        due("mass drawn", j.mass(1, 2), WHOLE / 2);
        for (int step = 1; step < 8; step++) {
            due("draw", j.draw(3, 2), step);
        }
        j.begin();
        due("a ninth draw", j.draw(3, 2), FULL);
        due("a bad ninth draw", j.draw(3, 4), BAD);
        due("a refused draw leaves the listing", j.done(), 0);
        due("draw count", j.count(1), 8);
        due("step count", j.count(0), 8);
        listAll(j);
        due("eight draws leave a whole mass", j.sum(0, -1, 0), WHOLE);
        due("the last draw is what counts", j.sum(0, 3, 7), WHOLE / 2);
        JoinedLists narrow = withRows();
        narrow.weight(0, 0, 1);
        narrow.weight(0, 1, 11);
        for (int i = 0; i < 8; i++) {
            narrow.draw(0, 0);
            narrow.observe(0, 0, 10);
        }
        narrow.ask(0, true);
        listAll(narrow);
        due("the least mass of all", narrow.sum(0, -1, 0), 1);
        due("the rest is lost", narrow.sum(1, -1, 0), WHOLE - 1);
    }

    private static int setBy(int op, int a, int b, int x) {
        int[] answers = {(a + b) % 10, ((a - b) % 10 + 10) % 10, a * b % 10, a < b ? a : b, a < b ? b : a,
            a == b ? 1 : 0, b == 0 ? a : x};
        return answers[op];
    }

    private static void promise4Set() {
        for (int op = 0; op <= 6; op++) {
            for (int a = 0; a < 10; a++) {
                for (int b = 0; b < 10; b++) {
                    JoinedLists j = new JoinedLists();
                    j.set(1, 0, 10 + a, 10);
                    j.set(4, 0, 10 + b, 10);
                    j.set(2, 0, 17, 10);
                    due("set", j.set(2, op, 1, 10 + b), 3);
                    due("set", j.set(3, op, 10 + a, 4), 4);
                    due("set", j.set(1, op, 1, 4), 5);
                    for (int x = 0; x < 6; x++) {
                        j.ask(x, true);
                    }
                    listAll(j);
                    int want = setBy(op, a, b, a) * 10000 + setBy(op, a, b, 7) * 1000 + setBy(op, a, b, 0) * 100 + b * 10;
                    due("set by " + op + " of " + a + ", " + b, j.code(6, 0), want);
                    due("set leaves the mass", j.mass(6, 0), WHOLE);
                }
            }
        }
        JoinedLists j = new JoinedLists();
        dueAll("set", BAD, j.set(-1, 0, 0, 0), j.set(6, 0, 0, 0), j.set(0, -1, 0, 0), j.set(0, 7, 0, 0),
                j.set(0, 0, -1, 0), j.set(0, 0, 6, 0), j.set(0, 0, 9, 0), j.set(0, 0, 20, 0),
                j.set(0, 0, 0, -1), j.set(0, 0, 0, 6), j.set(0, 0, 0, 9), j.set(0, 0, 0, 20), j.set(10, 0, 0, 0));
        for (int far : BEYOND) {
            dueAll("set far off", BAD, j.set(far, 0, 0, 0), j.set(0, far, 0, 0), j.set(0, 0, far, 0), j.set(0, 0, 0, far));
        }
        due("count behind refusals", j.count(0), 0);
        for (int step = 0; step < 30; step++) {
            due("set", j.set(5, 6, 19, 10), step);
        }
        j.begin();
        due("a 31st set", j.set(0, 0, 0, 0), FULL);
        due("a bad 31st set", j.set(0, 7, 0, 0), BAD);
        due("a refused set leaves the listing", j.done(), 0);
        due("step count", j.count(0), 30);
    }

    private static boolean seenBy(int cmp, int a, int b) {
        return cmp == 0 ? a == b : cmp == 1 ? a != b : cmp == 2 ? a < b : a > b;
    }

    private static void promise5Observe() {
        for (int cmp = 0; cmp <= 3; cmp++) {
            for (int a = 0; a < 10; a++) {
                for (int b = 0; b < 10; b++) {
                    JoinedLists j = new JoinedLists();
                    j.set(5, 0, 10 + b, 10);
                    due("observe", j.observe(10 + a, cmp, 5), 1);
                    listAll(j);
                    due("observed by " + cmp + " of " + a + ", " + b, j.sum(0, -1, 0), seenBy(cmp, a, b) ? WHOLE : 0);
                    due("lost by " + cmp + " of " + a + ", " + b, j.sum(1, -1, 0), seenBy(cmp, a, b) ? 0 : WHOLE);
                    due("states by " + cmp, j.states(2, 1), seenBy(cmp, a, b) ? 1 : 0);
                }
            }
        }
        JoinedLists j = withRows();
        dueAll("observe", BAD, j.observe(-1, 0, 0), j.observe(6, 0, 0), j.observe(20, 0, 0), j.observe(0, -1, 0),
                j.observe(0, 4, 0), j.observe(0, 0, -1), j.observe(0, 0, 9), j.observe(0, 0, 20));
        for (int far : BEYOND) {
            dueAll("observe far off", BAD, j.observe(far, 0, 0), j.observe(0, far, 0), j.observe(0, 0, far));
        }
        for (int step = 0; step < 30; step++) {
            due("observe", j.observe(0, 0, 1), step);
        }
        due("a 31st observe", j.observe(0, 0, 1), FULL);
        due("a bad 31st observe", j.observe(0, 4, 1), BAD);
        due("an observe gives nothing", j.live(0), 3);
    }

    private static void promise6Weigh() {
        JoinedLists j = withRows();
        dueAll("weigh", BAD, j.weigh(-1), j.weigh(6), j.weigh(9), j.weigh(20), j.weigh(BEYOND[0]), j.weigh(BEYOND[1]));
        j.draw(0, 2);
        due("weigh", j.weigh(0), 1);
        j.ask(0, true);
        listAll(j);
        due("mass weighed", j.mass(2, 0), WHOLE / 6);
        due("mass weighed", j.mass(2, 1), WHOLE / 3 * 2);
        due("mass weighed", j.mass(2, 2), WHOLE / 2 * 7);
        due("weigh", j.weigh(19), 2);
        due("weigh", j.weigh(19), 3);
        j.begin();
        due("a fourth weigh", j.weigh(19), FULL);
        due("a bad fourth weigh", j.weigh(20), BAD);
        due("a refused weigh leaves the listing", j.done(), 0);
        due("weigh count", j.count(2), 3);
        listAll(j);
        due("mass weighed thrice", j.mass(4, 2), WHOLE / 2 * 7 * 81);
        JoinedLists greatest = withRows();
        greatest.weigh(19);
        greatest.weigh(19);
        greatest.weigh(19);
        greatest.draw(0, 3);
        listAll(greatest);
        due("the greatest mass, drawn", greatest.sum(0, -1, 0), WHOLE * 729);
        JoinedLists none = withRows();
        none.draw(1, 1);
        none.weigh(1);
        none.ask(1, true);
        listAll(none);
        due("a run of mass 0 is lost", none.states(2, 1), 1);
        due("what it had is lost", none.sum(1, -1, 0), WHOLE / 2);
        due("the others stay", none.sum(0, 1, 1), WHOLE / 2);
        due("a lost run is a run", none.runs(), 2);
        JoinedLists full = new JoinedLists();
        for (int step = 0; step < 30; step++) {
            full.set(0, 0, 0, 0);
        }
        due("weigh as 31st step", full.weigh(0), FULL);
    }

    private static void promise7Skip() {
        JoinedLists j = new JoinedLists();
        dueAll("skip", BAD, j.skip(-1, 1), j.skip(6, 1), j.skip(20, 1), j.skip(0, 0), j.skip(0, 10), j.skip(0, -1));
        for (int far : BEYOND) {
            dueAll("skip far off", BAD, j.skip(far, 1), j.skip(0, far));
        }
        for (int n = 1; n <= 9; n++) {
            JoinedLists k = new JoinedLists();
            due("skip", k.skip(10, n), 0);
            for (int step = 1; step <= 10; step++) {
                k.set(0, 0, 0, 11);
            }
            k.ask(0, true);
            listAll(k);
            due("steps passed over", k.code(11, 0), (10 - n) * 100000);
            due("work done", k.count(3), 11 - n);
            due("where it came", k.states(1 + n, 1), 1);
            due("where it did not come", k.states(n, 1), 0);
        }
        JoinedLists past = new JoinedLists();
        past.skip(3, 9);
        past.set(0, 0, 11, 10);
        past.ask(0, true);
        listAll(past);
        due("passed over, the end at most", past.code(2, 0), 0);
        due("one work", past.count(3), 1);
        JoinedLists goes = new JoinedLists();
        goes.skip(13, 9);
        goes.set(0, 0, 11, 10);
        goes.ask(0, true);
        listAll(goes);
        due("not passed over", goes.code(2, 0), 100000);
        JoinedLists last = new JoinedLists();
        for (int step = 0; step < 30; step++) {
            due("skip", last.skip(10, 9), step);
        }
        due("a 31st skip", last.skip(10, 9), FULL);
        due("a bad 31st skip", last.skip(10, 0), BAD);
        listAll(last);
        due("from 0 by tens to the end", last.count(3), 3);
        due("one run", last.runs(), 1);
    }

    private static void promise8Drop() {
        JoinedLists j = withRows();
        j.begin();
        due("drop of nothing", j.drop(), STATE);
        due("a refused drop leaves the listing", j.done(), 1);
        for (int i = 0; i < 8; i++) {
            j.draw(0, 0);
        }
        j.weigh(11);
        j.weigh(11);
        j.weigh(12);
        j.begin();
        due("drop", j.drop(), 10);
        due("drop ends the listing", j.done(), STATE);
        due("drop counts the weighs", j.count(2), 2);
        due("weigh again", j.weigh(11), 10);
        for (int left = 10; left >= 7; left--) {
            due("drop", j.drop(), left);
        }
        due("drop counts the draws", j.count(1), 7);
        due("drop counts the weighs", j.count(2), 0);
        due("draw again", j.draw(1, 1), 7);
        for (int left = 7; left >= 0; left--) {
            due("drop", j.drop(), left);
        }
        due("drop of nothing", j.drop(), STATE);
        due("runs behind drops", j.runs(), 1);
    }

    private static void promise9Ask() {
        JoinedLists j = new JoinedLists();
        dueAll("ask", BAD, j.ask(-1, true), j.ask(6, true), j.ask(BEYOND[0], true), j.ask(BEYOND[1], false));
        for (int x = 0; x < 6; x++) {
            due("ask", j.ask(x, true), 0);
            due("ask", j.ask(x, true), 1);
        }
        due("asked are live at the end", j.live(0), 63);
        due("ask no more", j.ask(3, false), 1);
        due("ask no more", j.ask(3, false), 0);
        due("asked are live at the end", j.live(0), 55);
        j.begin();
        j.ask(6, true);
        due("a refused ask leaves the listing", j.done(), 1);
        j.ask(0, true);
        due("ask to the same ends the listing", j.done(), STATE);
        j.begin();
        j.ask(3, false);
        due("not to ask, as before, ends the listing", j.done(), STATE);
    }

    private static void promise10Live() {
        JoinedLists j = new JoinedLists();
        j.draw(0, 0);
        j.set(1, 0, 0, 2);
        j.set(3, 6, 4, 12);
        j.skip(11, 2);
        j.set(0, 1, 0, 10);
        j.observe(5, 2, 14);
        j.weigh(1);
        j.ask(0, true);
        j.ask(3, true);
        int[] want = {1 << 2 | 1 << 3 | 1 << 4 | 1 << 5, 1 | 1 << 2 | 1 << 3 | 1 << 4 | 1 << 5,
            1 | 1 << 1 | 1 << 3 | 1 << 4 | 1 << 5, 1 | 1 << 1 | 1 << 3 | 1 << 5, 1 | 1 << 1 | 1 << 3 | 1 << 5,
            1 | 1 << 1 | 1 << 3 | 1 << 5, 1 | 1 << 1 | 1 << 3, 1 | 1 << 3};
        for (int place = 0; place < want.length; place++) {
            due("live(" + place + ")", j.live(place), want[place]);
        }
        dueAll("live", BAD, j.live(-1), j.live(8), j.live(BEYOND[0]), j.live(BEYOND[1]));
        j.begin();
        j.live(0);
        due("live leaves the listing", j.done(), 0);
        JoinedLists far = new JoinedLists();
        far.skip(11, 1);
        far.set(2, 0, 11, 11);
        far.set(3, 3, 2, 11);
        due("live over a skip, whatever its term", far.live(0), 1 << 2);
        due("not live ahead of its set", far.live(1), 0);
        due("live where it is read", far.live(2), 1 << 2);
        JoinedLists own = new JoinedLists();
        own.set(2, 2, 2, 12);
        own.draw(3, 0);
        own.ask(3, true);
        due("live, as the set reads what it gives", own.live(0), 1 << 2);
        due("not live ahead of a draw", own.live(1), 0);
        JoinedLists end = new JoinedLists();
        end.skip(0, 9);
        end.set(4, 0, 10, 10);
        end.ask(4, true);
        due("live by the way to the end", end.live(0), 1 | 1 << 4);
    }

    private static void promise11Begin() {
        JoinedLists j = withRows();
        j.weight(3, 5, 1);
        due("a row that none draws by may be uneven", j.begin(), 1);
        j.skip(10, 9);
        j.draw(0, 3);
        due("a row drawn by, though passed over", j.begin(), UNEVEN);
        due("no listing then", j.done(), STATE);
        j.weight(3, 0, 58);
        due("59 together", j.begin(), UNEVEN);
        j.weight(3, 9, 1);
        due("60 together", j.begin(), 1);
        due("its first state", j.states(0, 0), 1);
        due("its first code", j.code(0, 0), 0);
        due("its first mass", j.mass(0, 0), WHOLE);
        due("nothing lost", j.sum(1, -1, 0), 0);
        due("list", j.list(1000), 1);
        due("begin anew", j.begin(), 1);
        due("no work done", j.count(3), 0);
        due("its first state", j.states(0, 0), 1);
        due("comes anew", j.states(0, 1), 1);
        due("nothing at the end", j.states(2, 0), 0);
        due("no comes to the end", j.states(2, 1), 0);
        JoinedLists twice = withRows();
        twice.draw(0, 2);
        twice.observe(0, 1, 12);
        for (int i = 0; i < 2; i++) {
            listAll(twice);
            due("lost in this listing", twice.sum(1, -1, 0), WHOLE / 3);
            due("joined in this listing", twice.states(2, 2), 1);
            due("came in this listing", twice.states(2, 1), 2);
        }
    }

    private static void promise12List() {
        JoinedLists j = withRows();
        dueAll("list, bad without a listing", BAD, j.list(0), j.list(1001), j.list(-1), j.list(BEYOND[0]), j.list(BEYOND[1]));
        due("list without a listing", j.list(1), STATE);
        j.draw(0, 2);
        j.draw(1, 1);
        j.ask(0, true);
        j.ask(1, true);
        j.begin();
        dueAll("list", BAD, j.list(0), j.list(1001));
        due("nothing done", j.count(3), 0);
        due("list", j.list(2), 2);
        due("the least code goes first", j.code(1, 0), 200000);
        due("what came of it", j.states(2, 0), 2);
        due("what came of it", j.code(2, 1), 110000);
        due("half of it", j.mass(2, 1), WHOLE / 12);
        due("list goes on", j.list(1000), 2);
        due("list when done", j.list(1000), 0);
        due("work done", j.count(3), 4);
        JoinedLists joins = fullAtTheEnd();
        due("list to where there is no room", joins.list(1000), 31);
        due("no room", joins.done(), 2);
        due("200 are there", joins.states(3, 0), 200);
        due("the next one stays", joins.code(2, 0), 200000);
        due("nor will it go later", joins.list(1), 0);
        due("work done", joins.count(3), 31);
        due("no comes beyond", joins.states(3, 1), 200);
        JoinedLists least = withRows();
        least.draw(0, 1);
        least.skip(0, 2);
        least.set(1, 0, 11, 10);
        least.set(2, 0, 12, 10);
        least.set(3, 0, 13, 10);
        for (int x = 0; x < 4; x++) {
            least.ask(x, true);
        }
        least.begin();
        due("list", least.list(2), 2);
        due("one went over", least.states(4, 0), 1);
        due("list", least.list(1), 1);
        due("the least place first", least.states(2, 0), 1);
        due("list", least.list(1), 1);
        due("the least place first", least.states(3, 0), 1);
        due("list", least.list(10), 3);
        due("codes at the end", least.code(5, 0), 300);
        due("codes at the end", least.code(5, 1), 112300);
    }

    private static JoinedLists fullAtTheEnd() {
        JoinedLists j = withRows();
        for (int x = 0; x < 3; x++) {
            j.draw(x, 0);
            j.ask(x, true);
        }
        j.begin();
        return j;
    }

    private static void promise13Done() {
        JoinedLists j = new JoinedLists();
        due("done without a listing", j.done(), STATE);
        j.begin();
        due("done with no steps", j.done(), 1);
        j.observe(10, 1, 10);
        j.begin();
        due("not done", j.done(), 0);
        j.list(1);
        due("done, with nothing left", j.done(), 1);
        JoinedLists joined = withRows();
        joined.draw(0, 0);
        joined.draw(1, 0);
        joined.set(2, 0, 10, 10);
        joined.draw(2, 1);
        joined.draw(3, 1);
        for (int x = 0; x < 3; x++) {
            joined.ask(x, true);
        }
        listAll(joined);
        due("200 with all later ones joined", joined.states(5, 0), 200);
        due("joined at the end", joined.states(5, 2), 200);
        JoinedLists full = fullAtTheEnd();
        full.list(30);
        due("room for the next one", full.done(), 0);
        full.list(1);
        due("no room for the next one", full.done(), 2);
        JoinedLists partly = withRows();
        partly.draw(0, 0);
        partly.draw(1, 0);
        partly.set(3, 4, 0, 18);
        partly.draw(2, 2);
        partly.ask(0, true);
        partly.ask(1, true);
        partly.ask(2, true);
        partly.begin();
        due("100 states, 66 of which find room for three", partly.list(1000), 1 + 10 + 100 + 66);
        due("room for two, not for three", partly.done(), 2);
        due("198 are there", partly.states(4, 0), 198);
        due("34 wait", partly.states(3, 0), 34);
        JoinedLists within = withRows();
        within.draw(0, 0);
        within.draw(1, 0);
        within.draw(2, 1);
        within.skip(2, 1);
        within.set(2, 0, 15, 10);
        within.ask(0, true);
        within.ask(1, true);
        within.ask(2, true);
        listAll(within);
        due("just 200 at a place, and on", within.states(3, 1), 200);
        due("just 200 at the end", within.states(5, 0), 200);
    }

    private static void promise14States() {
        JoinedLists j = withRows();
        dueAll("states, bad without a listing", BAD, j.states(-1, 0), j.states(1, 0), j.states(0, -1), j.states(0, 3));
        due("states without a listing", j.states(0, 2), STATE);
        j.draw(0, 2);
        j.set(1, 5, 0, 12);
        j.draw(0, 0);
        j.ask(1, true);
        listAll(j);
        dueAll("states", BAD, j.states(-1, 0), j.states(4, 0), j.states(0, -1), j.states(0, 3), j.states(BEYOND[0], 0),
                j.states(BEYOND[1], 0), j.states(0, BEYOND[0]), j.states(0, BEYOND[1]));
        int[][] want = {{0, 1, 0}, {0, 3, 0}, {0, 3, 1}, {2, 20, 18}};
        for (int place = 0; place < want.length; place++) {
            for (int what = 0; what < 3; what++) {
                due("states(" + place + ", " + what + ")", j.states(place, what), want[place][what]);
            }
        }
        due("masses joined", j.mass(3, 0), WHOLE / 3 * 2);
        due("masses joined", j.mass(3, 1), WHOLE / 3);
    }

    private static void promise15Code() {
        JoinedLists j = withRows();
        due("code, bad without a listing", j.code(1, 0), BAD);
        due("code without a listing", j.code(0, 0), STATE);
        due("code of none without a listing", j.code(0, 5), STATE);
        j.draw(5, 2);
        j.set(0, 1, 10, 5);
        for (int x = 0; x < 6; x++) {
            j.ask(x, true);
        }
        listAll(j);
        due("codes stand by their order", j.code(2, 0), 300007);
        due("codes stand by their order", j.code(2, 1), 800002);
        due("codes stand by their order", j.code(2, 2), 900001);
        due("masses stand with them", j.mass(2, 0), WHOLE / 2);
        due("masses stand with them", j.mass(2, 2), WHOLE / 6);
        dueAll("code of none", NONE, j.code(2, 3), j.code(2, -1), j.code(2, 200), j.code(1, 0), j.code(0, 0),
                j.code(2, BEYOND[0]), j.code(2, BEYOND[1]));
        dueAll("code of no place", BAD, j.code(3, 0), j.code(-1, 0), j.code(3, -1), j.code(BEYOND[0], 0), j.code(BEYOND[1], 0));
        j.ask(5, false);
        listAll(j);
        due("what is not live counts as 0", j.code(2, 0), 300000);
    }

    private static void promise16Mass() {
        JoinedLists j = withRows();
        due("mass without a listing", j.mass(0, 0), 0);
        j.draw(0, 2);
        j.ask(0, true);
        j.begin();
        due("mass", j.mass(0, 0), WHOLE);
        dueAll("mass of none", 0, j.mass(1, 0), j.mass(0, 1), j.mass(0, -1), j.mass(2, 0), j.mass(-1, 0), j.mass(31, 0),
                j.mass(BEYOND[0], 0), j.mass(BEYOND[1], 0), j.mass(0, BEYOND[0]), j.mass(0, BEYOND[1]));
        j.list(1);
        due("mass", j.mass(1, 2), WHOLE / 2);
        dueAll("mass of none", 0, j.mass(1, 3), j.mass(0, 0));
        j.ask(1, true);
        due("mass without a listing", j.mass(1, 2), 0);
    }

    private static void promise17Sum() {
        JoinedLists j = withRows();
        dueAll("sum, bad without a listing", BAD, j.sum(-1, -1, 0), j.sum(3, -1, 0), j.sum(0, -2, 0), j.sum(0, 6, 0),
                j.sum(1, 0, 0), j.sum(0, 0, -1), j.sum(2, 0, 10));
        dueAll("sum without a listing", STATE, j.sum(0, -1, 0), j.sum(1, -1, 0), j.sum(2, 5, 9));
        j.draw(0, 2);
        j.observe(0, 1, 12);
        j.set(1, 0, 0, 11);
        j.ask(1, true);
        j.begin();
        j.list(2);
        dueAll("sum of what is open", WHOLE, j.sum(2, -1, 0), j.sum(2, 1, 0), j.sum(2, 5, 0));
        due("sum by a value, of two places", j.sum(2, 0, 1), WHOLE / 6);
        due("sum by a value", j.sum(2, 0, 7), WHOLE / 2);
        due("sum by a value of none", j.sum(2, 0, 0), 0);
        j.list(1);
        due("lost", j.sum(1, -1, 0), WHOLE / 3);
        due("open", j.sum(2, -1, 0), WHOLE / 3 * 2);
        due("at the end", j.sum(0, -1, 0), 0);
        j.list(1000);
        due("at the end", j.sum(0, -1, 0), WHOLE / 3 * 2);
        due("at the end by a value", j.sum(0, 1, 8), WHOLE / 2);
        due("at the end by a value", j.sum(0, 1, 2), WHOLE / 6);
        due("not live at the end: 0", j.sum(0, 0, 0), WHOLE / 3 * 2);
        due("not live at the end: nothing else", j.sum(0, 0, 7), 0);
        due("open", j.sum(2, -1, 0), 0);
        dueAll("with no variable v counts for nothing", WHOLE / 3 * 2, j.sum(0, -1, 9), j.sum(0, -1, -7), j.sum(0, -1, 10));
        dueAll("sum", BAD, j.sum(-1, -1, 0), j.sum(3, -1, 0), j.sum(0, -2, 0), j.sum(0, 6, 0), j.sum(1, 0, 0),
                j.sum(1, 5, 0), j.sum(0, 0, -1), j.sum(2, 0, 10));
        for (int far : BEYOND) {
            dueAll("sum far off", BAD, j.sum(far, -1, 0), j.sum(0, far, 0), j.sum(0, 0, far));
        }
    }

    private static void promise18Odds() {
        JoinedLists j = withRows();
        due("odds of what is not asked, without a listing", oddsOf(j, 0, 0, 0), BAD);
        j.ask(0, true);
        due("odds without a listing", oddsOf(j, 0, 0, 0), STATE);
        j.draw(0, 2);
        j.draw(1, 0);
        j.observe(1, 2, 13);
        j.begin();
        j.list(1);
        due("odds ahead of the end", oddsOf(j, 0, 7, 0), STATE);
        due("bad odds ahead of the end", oddsOf(j, 1, 7, 0), BAD);
        listAll(j);
        long[][] want = {{0, 1}, {1, 6}, {1, 3}, {0, 1}, {0, 1}, {0, 1}, {0, 1}, {1, 2}, {0, 1}, {0, 1}};
        for (int v = 0; v < 10; v++) {
            due("odds of " + v, oddsOf(j, 0, v, 0), want[v][0]);
            due("odds of " + v, oddsOf(j, 0, v, 1), want[v][1]);
        }
        dueAll("odds", BAD, oddsOf(j, -1, 0, 0), oddsOf(j, 6, 0, 0), oddsOf(j, 0, -1, 0), oddsOf(j, 0, 10, 0),
                oddsOf(j, 0, 0, -1), oddsOf(j, 0, 0, 2), oddsOf(j, 1, 0, 0), oddsOf(j, 32, 0, 0));
        for (int far : BEYOND) {
            dueAll("odds far off", BAD, oddsOf(j, far, 0, 0), oddsOf(j, 0, far, 0), oddsOf(j, 0, 0, far));
        }
        j.weigh(0);
        listAll(j);
        due("odds weighed", oddsOf(j, 0, 7, 0), 21);
        due("odds weighed", oddsOf(j, 0, 7, 1), 26);
        j.observe(0, 0, 10);
        listAll(j);
        dueAll("odds of nothing", THROWN, oddsOf(j, 0, 7, 0), oddsOf(j, 0, 0, 1));
        due("bad odds of nothing", oddsOf(j, 0, 7, 2), BAD);
        due("the listing stays", j.done(), 1);
        JoinedLists full = fullAtTheEnd();
        full.list(1000);
        due("odds where there is no room", oddsOf(full, 0, 0, 0), STATE);
    }

    private static void promise19Runs() {
        JoinedLists j = withRows();
        j.draw(0, 2);
        due("runs", j.runs(), 3);
        j.observe(0, 0, 12);
        due("lost ones are runs", j.runs(), 3);
        j.draw(1, 0);
        due("lost ones go no further", j.runs(), 12);
        j.weight(2, 7, 29);
        due("runs of an uneven row", j.runs(), UNEVEN);
        j.drop();
        due("uneven still", j.runs(), UNEVEN);
        j.weight(2, 8, 1);
        due("runs of weights as they are", j.runs(), 4);
        JoinedLists most = withRows();
        most.draw(5, 1);
        for (int x = 0; x < 4; x++) {
            most.draw(x, 0);
        }
        due("20000 runs", most.runs(), 20000);
        most.begin();
        most.runs();
        due("runs leaves the listing", most.done(), 0);
        JoinedLists more = withRows();
        more.draw(5, 1);
        more.skip(5, 9);
        more.draw(4, 1);
        for (int x = 0; x < 4; x++) {
            more.draw(x, 0);
        }
        due("20001 runs", more.runs(), FULL);
        due("20001 runs, again", more.runs(), FULL);
        more.weight(0, 0, 7);
        due("uneven goes ahead of full", more.runs(), UNEVEN);
        JoinedLists joined = withRows();
        joined.draw(0, 0);
        joined.draw(0, 0);
        joined.ask(1, true);
        due("nothing is joined", joined.runs(), 100);
    }

    private static void promise20Plain() {
        JoinedLists j = withRows();
        dueAll("plain", BAD, j.plain(-2, 0), j.plain(6, 0), j.plain(0, -1), j.plain(0, 10), j.plain(BEYOND[0], 0),
                j.plain(BEYOND[1], 0), j.plain(0, BEYOND[0]), j.plain(0, BEYOND[1]));
        j.draw(0, 2);
        j.draw(1, 1);
        j.observe(0, 1, 12);
        j.set(2, 0, 0, 1);
        due("plain of all", j.plain(-1, 0), WHOLE / 3 * 2);
        due("plain of all, whatever v is", j.plain(-1, 5), WHOLE / 3 * 2);
        due("plain", j.plain(2, 8), WHOLE / 4);
        due("plain", j.plain(2, 1), WHOLE / 12);
        due("plain of a lost one", j.plain(0, 2), 0);
        due("plain of what is not live", j.plain(0, 7), WHOLE / 2);
        due("plain of what never was set", j.plain(5, 0), WHOLE / 3 * 2);
        j.weigh(2);
        due("plain weighed", j.plain(2, 8), WHOLE * 2);
        j.weigh(1);
        due("plain weighed", j.plain(2, 7), 0);
        due("plain weighed", j.plain(-1, 0), WHOLE * 2 + WHOLE / 6);
        j.begin();
        j.plain(0, 0);
        due("plain leaves the listing", j.done(), 0);
        j.weight(1, 5, 1);
        due("plain of an uneven row", j.plain(2, 8), UNEVEN);
        due("bad plain of an uneven row", j.plain(6, 8), BAD);
        JoinedLists more = withRows();
        for (int x = 0; x < 5; x++) {
            more.draw(x, 0);
        }
        due("plain of too many", more.plain(0, 0), FULL);
        due("bad plain of too many", more.plain(0, 10), BAD);
        more.drop();
        due("plain of as many as may be", more.plain(0, 3), WHOLE / 10);
    }

    private static void promise21Count() {
        JoinedLists j = withRows();
        dueAll("count", BAD, j.count(-1), j.count(4), j.count(BEYOND[0]), j.count(BEYOND[1]));
        j.draw(0, 2);
        j.draw(1, 2);
        j.weigh(0);
        j.set(0, 0, 0, 0);
        j.observe(0, 0, 0);
        j.skip(0, 1);
        due("steps", j.count(0), 6);
        due("draws", j.count(1), 2);
        due("weighs", j.count(2), 1);
        due("work without a listing", j.count(3), 0);
        j.begin();
        due("work at its beginning", j.count(3), 0);
        j.list(2);
        due("work", j.count(3), 2);
        j.list(1);
        due("work", j.count(3), 3);
        j.ask(0, false);
        due("work without a listing", j.count(3), 0);
    }

    private static void promise22Clear() {
        JoinedLists j = withRows();
        j.draw(0, 0);
        j.weigh(11);
        j.set(0, 0, 0, 0);
        j.ask(4, true);
        j.begin();
        j.list(3);
        due("clear", j.clear(), 3);
        due("clear ends the listing", j.done(), STATE);
        for (int what = 0; what <= 3; what++) {
            due("count behind clear", j.count(what), 0);
        }
        due("live behind clear", j.live(0), 0);
        due("ask behind clear", j.ask(4, false), 0);
        due("draw behind clear", j.draw(0, 0), 0);
        due("runs behind clear", j.runs(), 1);
        due("plain behind clear", j.plain(0, 0), WHOLE);
        for (int row = 0; row < 4; row++) {
            for (int v = 0; v < 10; v++) {
                due("weight behind clear", j.weight(row, v, 1), v == 0 ? 60 : 0);
            }
        }
        due("clear", j.clear(), 1);
        due("clear", j.clear(), 0);
        j.begin();
        j.clear();
        due("clear of nothing ends the listing", j.done(), STATE);
    }

    private static void constants() {
        due("BAD", JoinedLists.BAD, -1);
        due("FULL", JoinedLists.FULL, -2);
        due("STATE", JoinedLists.STATE, -3);
        due("UNEVEN", JoinedLists.UNEVEN, -4);
        due("NONE", JoinedLists.NONE, -5);
    }

    private static void everyStepEndsTheListing() {
        for (int kind = 0; kind < 5; kind++) {
            JoinedLists j = new JoinedLists();
            j.begin();
            int step = kind == 0 ? j.draw(0, 0) : kind == 1 ? j.set(0, 0, 0, 0) : kind == 2 ? j.observe(0, 0, 0)
                    : kind == 3 ? j.weigh(0) : j.skip(0, 1);
            due("a step", step, 0);
            due("a step ends the listing", j.done(), STATE);
        }
    }

    public static void main(String[] args) {
        constants();
        promise1NewObject();
        promise2Weight();
        promise3Draw();
        promise4Set();
        promise5Observe();
        promise6Weigh();
        promise7Skip();
        promise8Drop();
        promise9Ask();
        promise10Live();
        promise11Begin();
        promise12List();
        promise13Done();
        promise14States();
        promise15Code();
        promise16Mass();
        promise17Sum();
        promise18Odds();
        promise19Runs();
        promise20Plain();
        promise21Count();
        promise22Clear();
        everyStepEndsTheListing();
        System.out.println(wrong == 0 ? "all " + looked + " answers are as due" : wrong + " answers are not as due");
        if (wrong != 0) {
            System.exit(1);
        }
    }
}
