import java.util.ArrayList;
import java.util.Arrays;
import java.util.List;
import java.util.function.Supplier;

/**
 * "Refusals are answers, the first that a call names; what is refused changes nothing": each call
 * that is refused is made on objects in many states, and then all that can be asked is compared
 * with a twin on which it was not made.
 */
public final class RefusalTest {
    private static final int BAD = -1, FULL = -2, STATE = -3, UNEVEN = -4, NONE = -5;
    private static final long THROWN = Long.MIN_VALUE;
    private static final int CALLS = 512;
    private static final int TENS = 0, TWOS = 1, RARE = 2, FIRST = 3;

    private static int wrong = 0;
    private static int looked = 0;

    private interface Call {
        long on(JoinedLists j);
    }

    /** A call that is refused, and by which answer. */
    private static final class Refused {
        final String name;
        final long want;
        final Call call;

        Refused(String name, long want, Call call) {
            this.name = name;
            this.want = want;
            this.call = call;
        }
    }

    /** A way to make an object in some state, with the calls that are refused in it beside those that always are. */
    private static final class Scene {
        final String name;
        final Supplier<JoinedLists> made;
        final List<Refused> refused = new ArrayList<>(ALWAYS);

        Scene(String name, Supplier<JoinedLists> made) {
            this.name = name;
            this.made = made;
        }

        Scene refuses(long want, String call, Call made) {
            refused.add(new Refused(call, want, made));
            return this;
        }
    }

    private static final List<Refused> ALWAYS = new ArrayList<>();

    private static void bad(String name, Call call) {
        ALWAYS.add(new Refused(name, BAD, call));
    }

    private static long oddsOf(JoinedLists j, int x, int v, int part) {
        try {
            return j.odds(x, v, part);
        } catch (ArithmeticException e) {
            return THROWN;
        }
    }

    private static void badOfTheProgram() {
        bad("weight(-1, 0, 5)", j -> j.weight(-1, 0, 5));
        bad("weight(4, 0, 5)", j -> j.weight(4, 0, 5));
        bad("weight(0, -1, 5)", j -> j.weight(0, -1, 5));
        bad("weight(0, 10, 5)", j -> j.weight(0, 10, 5));
        bad("weight(1, 0, -1)", j -> j.weight(1, 0, -1));
        bad("weight(1, 0, 61)", j -> j.weight(1, 0, 61));
        bad("draw(-1, 1)", j -> j.draw(-1, 1));
        bad("draw(6, 1)", j -> j.draw(6, 1));
        bad("draw(0, -1)", j -> j.draw(0, -1));
        bad("draw(0, 4)", j -> j.draw(0, 4));
        bad("set(-1, 0, 11, 10)", j -> j.set(-1, 0, 11, 10));
        bad("set(6, 0, 11, 10)", j -> j.set(6, 0, 11, 10));
        bad("set(0, -1, 11, 10)", j -> j.set(0, -1, 11, 10));
        bad("set(0, 7, 11, 10)", j -> j.set(0, 7, 11, 10));
        bad("observe(0, -1, 11)", j -> j.observe(0, -1, 11));
        bad("observe(0, 4, 11)", j -> j.observe(0, 4, 11));
        bad("skip(10, 0)", j -> j.skip(10, 0));
        bad("skip(10, 10)", j -> j.skip(10, 10));
        int[] noTerm = {-1, 6, 9, 20};
        for (int t : noTerm) {
            bad("set(0, 0, " + t + ", 11)", j -> j.set(0, 0, t, 11));
            bad("set(0, 0, 11, " + t + ")", j -> j.set(0, 0, 11, t));
            bad("observe(" + t + ", 0, 11)", j -> j.observe(t, 0, 11));
            bad("observe(11, 0, " + t + ")", j -> j.observe(11, 0, t));
            bad("weigh(" + t + ")", j -> j.weigh(t));
            bad("skip(" + t + ", 1)", j -> j.skip(t, 1));
        }
        bad("ask(-1, true)", j -> j.ask(-1, true));
        bad("ask(6, true)", j -> j.ask(6, true));
        bad("ask(-1, false)", j -> j.ask(-1, false));
        bad("ask(6, false)", j -> j.ask(6, false));
        bad("live(-1)", j -> j.live(-1));
        bad("live(END + 1)", j -> j.live(j.count(0) + 1));
    }

    private static void badOfTheRest() {
        bad("list(0)", j -> j.list(0));
        bad("list(-1)", j -> j.list(-1));
        bad("list(1001)", j -> j.list(1001));
        bad("states(-1, 0)", j -> j.states(-1, 0));
        bad("states(END + 1, 0)", j -> j.states(j.count(0) + 1, 0));
        bad("states(0, -1)", j -> j.states(0, -1));
        bad("states(0, 3)", j -> j.states(0, 3));
        bad("code(-1, 0)", j -> j.code(-1, 0));
        bad("code(END + 1, 0)", j -> j.code(j.count(0) + 1, 0));
        bad("code(END + 1, -1)", j -> j.code(j.count(0) + 1, -1));
        bad("sum(-1, -1, 0)", j -> j.sum(-1, -1, 0));
        bad("sum(3, -1, 0)", j -> j.sum(3, -1, 0));
        bad("sum(0, -2, 0)", j -> j.sum(0, -2, 0));
        bad("sum(0, 6, 0)", j -> j.sum(0, 6, 0));
        bad("sum(0, 0, -1)", j -> j.sum(0, 0, -1));
        bad("sum(2, 0, 10)", j -> j.sum(2, 0, 10));
        bad("sum(1, 0, 0)", j -> j.sum(1, 0, 0));
        bad("odds(-1, 0, 0)", j -> oddsOf(j, -1, 0, 0));
        bad("odds(6, 0, 0)", j -> oddsOf(j, 6, 0, 0));
        bad("odds(0, -1, 0)", j -> oddsOf(j, 0, -1, 0));
        bad("odds(0, 10, 0)", j -> oddsOf(j, 0, 10, 0));
        bad("odds(0, 0, -1)", j -> oddsOf(j, 0, 0, -1));
        bad("odds(0, 0, 2)", j -> oddsOf(j, 0, 0, 2));
        bad("plain(-2, 0)", j -> j.plain(-2, 0));
        bad("plain(6, 0)", j -> j.plain(6, 0));
        bad("plain(0, -1)", j -> j.plain(0, -1));
        bad("plain(0, 10)", j -> j.plain(0, 10));
        bad("count(-1)", j -> j.count(-1));
        bad("count(4)", j -> j.count(4));
        // No refusal has a name for it, but there is none such: 0.
        ALWAYS.add(new Refused("mass(-1, 0)", 0, j -> j.mass(-1, 0)));
        ALWAYS.add(new Refused("mass(END + 1, 0)", 0, j -> j.mass(j.count(0) + 1, 0)));
        ALWAYS.add(new Refused("mass(0, -1)", 0, j -> j.mass(0, -1)));
        ALWAYS.add(new Refused("mass(0, 200)", 0, j -> j.mass(0, 200)));
    }

    private static void badFarOff(int far) {
        bad("weight(far, 0, 5)", j -> j.weight(far, 0, 5));
        bad("weight(0, far, 5)", j -> j.weight(0, far, 5));
        bad("weight(0, 0, far)", j -> j.weight(0, 0, far));
        bad("draw(far, 1)", j -> j.draw(far, 1));
        bad("draw(0, far)", j -> j.draw(0, far));
        bad("set(far, 0, 11, 10)", j -> j.set(far, 0, 11, 10));
        bad("set(0, far, 11, 10)", j -> j.set(0, far, 11, 10));
        bad("set(0, 0, far, 10)", j -> j.set(0, 0, far, 10));
        bad("set(0, 0, 11, far)", j -> j.set(0, 0, 11, far));
        bad("observe(far, 0, 11)", j -> j.observe(far, 0, 11));
        bad("observe(0, far, 11)", j -> j.observe(0, far, 11));
        bad("observe(0, 0, far)", j -> j.observe(0, 0, far));
        bad("weigh(far)", j -> j.weigh(far));
        bad("skip(far, 1)", j -> j.skip(far, 1));
        bad("skip(0, far)", j -> j.skip(0, far));
        bad("ask(far, true)", j -> j.ask(far, true));
        bad("live(far)", j -> j.live(far));
        bad("list(far)", j -> j.list(far));
        bad("states(far, 0)", j -> j.states(far, 0));
        bad("states(0, far)", j -> j.states(0, far));
        bad("code(far, 0)", j -> j.code(far, 0));
        bad("sum(far, -1, 0)", j -> j.sum(far, -1, 0));
        bad("sum(0, far, 0)", j -> j.sum(0, far, 0));
        bad("sum(0, 0, far)", j -> j.sum(0, 0, far));
        bad("odds(far, 0, 0)", j -> oddsOf(j, far, 0, 0));
        bad("odds(0, far, 0)", j -> oddsOf(j, 0, far, 0));
        bad("odds(0, 0, far)", j -> oddsOf(j, 0, 0, far));
        bad("plain(far, 0)", j -> j.plain(far, 0));
        bad("plain(0, far)", j -> j.plain(0, far));
        bad("count(far)", j -> j.count(far));
        ALWAYS.add(new Refused("mass(far, 0)", 0, j -> j.mass(far, 0)));
        ALWAYS.add(new Refused("mass(0, far)", 0, j -> j.mass(0, far)));
    }

    // ---- objects in many states

    private static JoinedLists withRows() {
        JoinedLists j = new JoinedLists();
        for (int v = 0; v < 10; v++) {
            j.weight(TENS, v, 6);
        }
        j.weight(TWOS, 0, 30);
        j.weight(TWOS, 1, 30);
        j.weight(RARE, 0, 59);
        j.weight(RARE, 9, 1);
        return j;
    }

    private static JoinedLists ofEveryKind() {
        JoinedLists j = withRows();
        j.draw(0, TENS);
        j.draw(1, RARE);
        j.set(2, 0, 0, 1);
        j.observe(2, 1, 15);
        j.skip(1, 1);
        j.weigh(0);
        j.set(3, 6, 17, 2);
        j.ask(2, true);
        j.ask(3, true);
        return j;
    }

    private static JoinedLists begun(JoinedLists j, int work) {
        j.begin();
        for (int left = work; left > 0; left -= 1000) {
            j.list(Math.min(left, 1000));
        }
        return j;
    }

    private static JoinedLists thirtySteps() {
        JoinedLists j = withRows();
        for (int i = 0; i < 8; i++) {
            j.draw(i % 4, TWOS);
        }
        for (int i = 0; i < 3; i++) {
            j.weigh(11 + i);
        }
        for (int i = 11; i < 30; i++) {
            j.set(4, i % 7, i % 6, 12);
        }
        j.ask(4, true);
        j.ask(0, true);
        return j;
    }

    private static JoinedLists eightDraws() {
        JoinedLists j = withRows();
        for (int i = 0; i < 8; i++) {
            j.draw(i % 3, TENS);
        }
        for (int i = 0; i < 3; i++) {
            j.weigh(12);
        }
        j.ask(1, true);
        return j;
    }

    private static JoinedLists noRoom() {
        JoinedLists j = withRows();
        for (int x = 0; x < 3; x++) {
            j.draw(x, TENS);
            j.ask(x, true);
        }
        return begun(j, 1000);
    }

    private static JoinedLists nothingLeft() {
        JoinedLists j = ofEveryKind();
        j.observe(10, 1, 10);
        return begun(j, 1000);
    }

    private static JoinedLists uneven() {
        JoinedLists j = ofEveryKind();
        j.weight(RARE, 9, 2);
        return j;
    }

    private static JoinedLists unevenAndMany() {
        JoinedLists j = eightDraws();
        j.weight(TENS, 9, 5);
        return j;
    }

    private static Scene withoutListing(String name, Supplier<JoinedLists> made, int asked) {
        return new Scene(name, made)
                .refuses(STATE, "list(1)", j -> j.list(1))
                .refuses(STATE, "list(1000)", j -> j.list(1000))
                .refuses(STATE, "done()", j -> j.done())
                .refuses(STATE, "states(0, 0)", j -> j.states(0, 0))
                .refuses(STATE, "states(END, 2)", j -> j.states(j.count(0), 2))
                .refuses(STATE, "code(0, 0)", j -> j.code(0, 0))
                .refuses(STATE, "code(END, -1)", j -> j.code(j.count(0), -1))
                .refuses(0, "mass(0, 0)", j -> j.mass(0, 0))
                .refuses(STATE, "sum(0, -1, 0)", j -> j.sum(0, -1, 0))
                .refuses(STATE, "sum(1, -1, 0)", j -> j.sum(1, -1, 0))
                .refuses(STATE, "sum(2, 5, 9)", j -> j.sum(2, 5, 9))
                .refuses(asked < 0 ? BAD : STATE, "odds(" + asked + ", 0, 0)", j -> oddsOf(j, asked, 0, 0));
    }

    private static Scene withListing(String name, Supplier<JoinedLists> made) {
        return new Scene(name, made)
                .refuses(NONE, "code(END, -1)", j -> j.code(j.count(0), -1))
                .refuses(NONE, "code(END, 200)", j -> j.code(j.count(0), 200))
                .refuses(NONE, "code(0, 1)", j -> j.code(0, 1))
                .refuses(NONE, "code(0, least)", j -> j.code(0, Integer.MIN_VALUE))
                .refuses(NONE, "code(0, most)", j -> j.code(0, Integer.MAX_VALUE))
                .refuses(0, "mass(END, 200)", j -> j.mass(j.count(0), 200));
    }

    private static Scene refusesSteps(Scene scene, boolean all) {
        scene.refuses(FULL, "draw(0, 3)", j -> j.draw(0, FIRST)).refuses(FULL, "weigh(12)", j -> j.weigh(12));
        if (all) {
            scene.refuses(FULL, "set(0, 0, 11, 10)", j -> j.set(0, 0, 11, 10));
            scene.refuses(FULL, "observe(10, 1, 10)", j -> j.observe(10, 1, 10));
            scene.refuses(FULL, "skip(10, 9)", j -> j.skip(10, 9));
        }
        return scene;
    }

    private static List<Scene> scenes() {
        List<Scene> scenes = new ArrayList<>();
        scenes.add(withoutListing("a new object", JoinedLists::new, -1).refuses(STATE, "drop()", j -> j.drop()));
        scenes.add(withListing("no steps, listed", () -> begun(new JoinedLists(), 1))
                .refuses(STATE, "drop()", j -> j.drop())
                .refuses(0, "list(1)", j -> j.list(1)));
        scenes.add(withoutListing("steps of every kind", () -> ofEveryKind(), 2)
                .refuses(BAD, "odds(1, 0, 0), not asked", j -> oddsOf(j, 1, 0, 0)));
        int[] works = {0, 1, 5, 12, 20, 30, 45, 60};
        for (int work : works) {
            scenes.add(withListing("steps of every kind, " + work + " work", () -> begun(ofEveryKind(), work))
                    .refuses(BAD, "odds(1, 0, 0), not asked", j -> oddsOf(j, 1, 0, 0))
                    .refuses(STATE, "odds(2, 1, 0)", j -> oddsOf(j, 2, 1, 0)));
        }
        scenes.add(withListing("steps of every kind, done", () -> begun(ofEveryKind(), 1000))
                .refuses(BAD, "odds(1, 0, 0), not asked", j -> oddsOf(j, 1, 0, 0))
                .refuses(0, "list(1000)", j -> j.list(1000)));
        scenes.add(withListing("nothing at the end", () -> nothingLeft())
                .refuses(THROWN, "odds(2, 1, 0)", j -> oddsOf(j, 2, 1, 0))
                .refuses(THROWN, "odds(3, 9, 1)", j -> oddsOf(j, 3, 9, 1))
                .refuses(BAD, "odds(1, 0, 0), not asked", j -> oddsOf(j, 1, 0, 0)));
        scenes.add(refusesSteps(withoutListing("30 steps", () -> thirtySteps(), 4), true));
        scenes.add(refusesSteps(withListing("30 steps, 100 work", () -> begun(thirtySteps(), 100)), true)
                .refuses(STATE, "odds(4, 0, 0)", j -> oddsOf(j, 4, 0, 0)));
        scenes.add(refusesSteps(withListing("30 steps, done", () -> begun(thirtySteps(), 3000)), true));
        scenes.add(refusesSteps(withoutListing("8 draws, 3 weighs", () -> eightDraws(), 1), false)
                .refuses(FULL, "runs()", j -> j.runs())
                .refuses(FULL, "plain(0, 0)", j -> j.plain(0, 0))
                .refuses(FULL, "plain(-1, 0)", j -> j.plain(-1, 0)));
        scenes.add(refusesSteps(withListing("8 draws, 3 weighs, 40 work", () -> begun(eightDraws(), 40)), false)
                .refuses(FULL, "runs()", j -> j.runs())
                .refuses(FULL, "plain(1, 9)", j -> j.plain(1, 9)));
        scenes.add(withListing("no room", () -> noRoom())
                .refuses(0, "list(1)", j -> j.list(1))
                .refuses(0, "list(1000)", j -> j.list(1000))
                .refuses(STATE, "odds(0, 0, 0)", j -> oddsOf(j, 0, 0, 0)));
        scenes.add(withoutListing("uneven", () -> uneven(), 2)
                .refuses(UNEVEN, "begin()", j -> j.begin())
                .refuses(UNEVEN, "runs()", j -> j.runs())
                .refuses(UNEVEN, "plain(0, 0)", j -> j.plain(0, 0))
                .refuses(UNEVEN, "plain(-1, 0)", j -> j.plain(-1, 0)));
        scenes.add(refusesSteps(withoutListing("uneven, and too many runs", () -> unevenAndMany(), 1), false)
                .refuses(UNEVEN, "begin()", j -> j.begin())
                .refuses(UNEVEN, "runs()", j -> j.runs())
                .refuses(UNEVEN, "plain(0, 0)", j -> j.plain(0, 0)));
        return scenes;
    }

    // ---- all that can be asked

    /** Answers to as many questions as the calls of one object allow. */
    private static final class Answers {
        final List<String> all = new ArrayList<>();

        void add(String call, long answer) {
            all.add(call + " = " + (answer == THROWN ? "throws" : String.valueOf(answer)));
        }
    }

    private interface Look {
        void at(JoinedLists j, Answers answers);
    }

    private static void lookAtProgram(JoinedLists j, Answers answers) {
        int steps = j.count(0);
        for (int what = 0; what < 4; what++) {
            answers.add("count(" + what + ")", j.count(what));
        }
        for (int place = 0; place <= steps + 1; place++) {
            answers.add("live(" + place + ")", j.live(place));
        }
        for (int x = 0; x < 6; x++) {
            answers.add("ask(" + x + ", true)", j.ask(x, true));
        }
        for (int left = steps; left > 0; left--) {
            answers.add("live(0)", j.live(0));
            answers.add("drop()", j.drop());
            answers.add("count(1)", j.count(1));
            answers.add("count(2)", j.count(2));
        }
        for (int row = 0; row < 4; row++) {
            for (int v = 0; v < 10; v++) {
                answers.add("weight(" + row + ", " + v + ", 0)", j.weight(row, v, 0));
            }
        }
        answers.add("drop()", j.drop());
    }

    private static void lookAtRuns(JoinedLists j, Answers answers) {
        answers.add("runs()", j.runs());
        answers.add("plain(-1, 0)", j.plain(-1, 0));
        for (int x = 0; x < 6; x++) {
            for (int v = 0; v < 10; v++) {
                answers.add("plain(" + x + ", " + v + ")", j.plain(x, v));
            }
        }
        answers.add("done()", j.done());
        answers.add("drop()", j.drop());
        answers.add("runs()", j.runs());
        answers.add("drop()", j.drop());
        answers.add("plain(0, 0)", j.plain(0, 0));
    }

    private static void lookAtListing(JoinedLists j, Answers answers) {
        answers.add("done()", j.done());
        answers.add("count(3)", j.count(3));
        int steps = j.count(0);
        for (int place = 0; place <= steps; place++) {
            for (int what = 0; what < 3; what++) {
                answers.add("states(" + place + ", " + what + ")", j.states(place, what));
            }
        }
        for (int what = 0; what < 3; what++) {
            answers.add("sum(" + what + ", -1, 0)", j.sum(what, -1, 0));
        }
        for (int x = 0; x < 6; x++) {
            for (int v = 0; v < 10; v++) {
                answers.add("sum(0, " + x + ", " + v + ")", j.sum(0, x, v));
                answers.add("sum(2, " + x + ", " + v + ")", j.sum(2, x, v));
            }
            answers.add("odds(" + x + ", 1, 0)", oddsOf(j, x, 1, 0));
            answers.add("odds(" + x + ", 1, 1)", oddsOf(j, x, 1, 1));
        }
    }

    private static void lookAtStates(JoinedLists j, Answers answers) {
        int steps = j.count(0);
        int[] seats = {0, 1, 2, 9, 198, 199};
        for (int place = 0; place <= steps; place++) {
            for (int i : seats) {
                answers.add("code(" + place + ", " + i + ")", j.code(place, i));
                answers.add("mass(" + place + ", " + i + ")", j.mass(place, i));
            }
        }
    }

    private static void lookAtWhatFollows(JoinedLists j, Answers answers) {
        for (int i = 0; i < 3; i++) {
            answers.add("list(1)", j.list(1));
            answers.add("done()", j.done());
        }
        answers.add("list(1000)", j.list(1000));
        answers.add("list(1000)", j.list(1000));
        lookAtListing(j, answers);
        answers.add("begin()", j.begin());
        answers.add("list(3)", j.list(3));
        answers.add("count(3)", j.count(3));
        answers.add("draw(5, 3)", j.draw(5, FIRST));
        answers.add("weigh(12)", j.weigh(12));
        answers.add("set(5, 0, 12, 10)", j.set(5, 0, 12, 10));
        answers.add("clear()", j.clear());
    }

    private static final List<Look> LOOKS = Arrays.asList(RefusalTest::lookAtProgram, RefusalTest::lookAtRuns,
            RefusalTest::lookAtListing, RefusalTest::lookAtStates, RefusalTest::lookAtWhatFollows);

    private static List<String> answersOf(Look look, JoinedLists j) {
        Answers answers = new Answers();
        look.at(j, answers);
        // What an object answers beyond its 512th call is free; the making of it takes some 60.
        if (answers.all.size() > CALLS - 70) {
            throw new IllegalStateException("more questions than an object allows");
        }
        return answers.all;
    }

    private static void fault(String what) {
        wrong++;
        if (wrong <= 50) {
            System.out.println(what);
        }
    }

    private static void compare(Scene scene, Refused refused, List<String> got, List<String> want) {
        looked++;
        if (got.equals(want)) {
            return;
        }
        for (int i = 0; i < want.size() && i < got.size(); i++) {
            if (!got.get(i).equals(want.get(i))) {
                fault(scene.name + ": " + refused.name + " was refused, and then " + got.get(i) + ", due is " + want.get(i));
                return;
            }
        }
        fault(scene.name + ": " + refused.name + " was refused, and then there were other questions to ask");
    }

    private static void lookAtScene(Scene scene) {
        for (Look look : LOOKS) {
            List<String> want = answersOf(look, scene.made.get());
            for (Refused refused : scene.refused) {
                JoinedLists j = scene.made.get();
                long answer = refused.call.on(j);
                looked++;
                if (answer != refused.want) {
                    fault(scene.name + ": " + refused.name + " answered " + answer + ", due is " + refused.want);
                }
                compare(scene, refused, answersOf(look, j), want);
            }
        }
    }

    public static void main(String[] args) {
        badOfTheProgram();
        badOfTheRest();
        badFarOff(Integer.MIN_VALUE);
        badFarOff(Integer.MAX_VALUE);
        for (Scene scene : scenes()) {
            lookAtScene(scene);
        }
        System.out.println(wrong == 0 ? "all " + looked + " answers are as due" : wrong + " answers are not as due");
        if (wrong != 0) {
            System.exit(1);
        }
    }
}
