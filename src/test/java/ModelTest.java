import java.math.BigInteger;
import java.util.ArrayList;
import java.util.List;
import java.util.Map;
import java.util.TreeMap;

/** Long runs of calls, each answer compared with a model that follows the document word by word. */
public final class ModelTest {
    private static final int OBJECTS = 1100;
    private static final int CALLS = 512;
    /** The most calls of one turn: 120 that change the program, 146 of a listing, 2 of the plain one. */
    private static final int CALLS_OF_A_TURN = 268;
    private static final long THROWN = Long.MIN_VALUE;

    private static int wrong = 0;
    private static long seed = 1;

    /** The same numbers each time, so that a fault can be seen again. */
    private static int pick(int bound) {
        seed = seed * 6364136223846793005L + 1442695040888963407L;
        return (int) ((seed >>> 33) % bound);
    }

    private static int pick(int from, int to) {
        return from + pick(to - from + 1);
    }

    private static int[] copyWith(int[] vars, int x, int v) {
        int[] copy = vars.clone();
        copy[x] = v;
        return copy;
    }

    /** Kind, then the numbers of the call. */
    private static final class Step {
        final char kind;
        final int[] of;

        Step(char kind, int... of) {
            this.kind = kind;
            this.of = of;
        }
    }

    /** A run on its way: lost, or at a place with values and a mass. */
    private static final class Way {
        final int place;
        final int[] vars;
        final BigInteger mass;

        Way(int place, int[] vars, BigInteger mass) {
            this.place = place;
            this.vars = vars;
            this.mass = mass;
        }
    }

    private static final class Model {
        static final BigInteger WHOLE = BigInteger.valueOf(60).pow(8);
        final List<Step> steps = new ArrayList<>();
        final int[][] weights = new int[4][10];
        final boolean[] asked = new boolean[6];
        List<TreeMap<Integer, BigInteger>> places;
        int[] comes;
        int[] joins;
        BigInteger lost;
        int work;
        List<Way> ends;
        int runCount;

        Model() {
            clear();
        }

        int clear() {
            int before = steps.size();
            steps.clear();
            for (int row = 0; row < 4; row++) {
                for (int v = 0; v < 10; v++) {
                    weights[row][v] = v == 0 ? 60 : 0;
                }
            }
            for (int x = 0; x < 6; x++) {
                asked[x] = false;
            }
            places = null;
            return before;
        }

        int kinds(char kind) {
            int count = 0;
            for (Step step : steps) {
                count += step.kind == kind ? 1 : 0;
            }
            return count;
        }

        int add(Step step) {
            if (steps.size() == 30 || step.kind == 'd' && kinds('d') == 8 || step.kind == 'w' && kinds('w') == 3) {
                return -2;
            }
            steps.add(step);
            places = null;
            return steps.size() - 1;
        }

        static boolean term(int t) {
            return t >= 0 && t <= 5 || t >= 10 && t <= 19;
        }

        static int value(int t, int[] vars) {
            return t < 10 ? vars[t] : t - 10;
        }

        static int bit(int t) {
            return t < 6 ? 1 << t : 0;
        }

        int live(int place) {
            if (place == steps.size()) {
                int all = 0;
                for (int x = 0; x < 6; x++) {
                    all |= asked[x] ? 1 << x : 0;
                }
                return all;
            }
            int[] memo = new int[31];
            memo[steps.size()] = live(steps.size());
            for (int p = steps.size() - 1; p >= place; p--) {
                Step s = steps.get(p);
                int next = memo[p + 1];
                switch (s.kind) {
                    case 'd':
                        memo[p] = next & ~(1 << s.of[0]);
                        break;
                    case 's':
                        memo[p] = (s.of[1] == 6 ? next | 1 << s.of[0] : next & ~(1 << s.of[0])) | bit(s.of[2]) | bit(s.of[3]);
                        break;
                    case 'o':
                        memo[p] = next | bit(s.of[0]) | bit(s.of[2]);
                        break;
                    case 'w':
                        memo[p] = next | bit(s.of[0]);
                        break;
                    default:
                        memo[p] = next | memo[Math.min(steps.size(), p + 1 + s.of[1])] | bit(s.of[0]);
                        break;
                }
            }
            return memo[place];
        }

        boolean uneven() {
            for (Step s : steps) {
                if (s.kind == 'd') {
                    int total = 0;
                    for (int w : weights[s.of[1]]) {
                        total += w;
                    }
                    if (total != 60) {
                        return true;
                    }
                }
            }
            return false;
        }

        /** What a step makes of a run; nothing, if it is lost. */
        List<Way> after(int p, int[] vars, BigInteger mass) {
            List<Way> ways = new ArrayList<>();
            Step s = steps.get(p);
            int[] of = s.of;
            if (s.kind == 'd') {
                for (int v = 0; v < 10; v++) {
                    int w = weights[of[1]][v];
                    if (w > 0) {
                        BigInteger[] part = mass.multiply(BigInteger.valueOf(w)).divideAndRemainder(BigInteger.valueOf(60));
                        if (part[1].signum() != 0) {
                            throw new IllegalStateException("a mass with a remainder");
                        }
                        ways.add(new Way(p + 1, copyWith(vars, of[0], v), part[0]));
                    }
                }
            } else if (s.kind == 's') {
                int a = value(of[2], vars);
                int b = value(of[3], vars);
                int[] made = {(a + b) % 10, (a + 10 - b) % 10, a * b % 10, Math.min(a, b), Math.max(a, b), a == b ? 1 : 0,
                    b == 0 ? a : vars[of[0]]};
                ways.add(new Way(p + 1, copyWith(vars, of[0], made[of[1]]), mass));
            } else if (s.kind == 'o') {
                int a = value(of[0], vars);
                int b = value(of[2], vars);
                boolean[] holds = {a == b, a != b, a < b, a > b};
                if (holds[of[1]]) {
                    ways.add(new Way(p + 1, vars, mass));
                }
            } else if (s.kind == 'w') {
                int a = value(of[0], vars);
                if (a != 0) {
                    ways.add(new Way(p + 1, vars, mass.multiply(BigInteger.valueOf(a))));
                }
            } else {
                int a = value(of[0], vars);
                ways.add(new Way(a == 0 ? Math.min(steps.size(), p + 1 + of[1]) : p + 1, vars, mass));
            }
            return ways;
        }

        int codeAt(int place, int[] vars) {
            int live = live(place);
            int code = 0;
            for (int x = 0; x < 6; x++) {
                code = code * 10 + ((live >> x & 1) == 1 ? vars[x] : 0);
            }
            return code;
        }

        static int digit(int code, int x) {
            return String.format("%06d", code).charAt(x) - '0';
        }

        static int[] vars(int code) {
            int[] vars = new int[6];
            for (int x = 5, rest = code; x >= 0; x--, rest /= 10) {
                vars[x] = rest % 10;
            }
            return vars;
        }

        int begin() {
            if (uneven()) {
                return -4;
            }
            places = new ArrayList<>();
            for (int p = 0; p <= steps.size(); p++) {
                places.add(new TreeMap<>());
            }
            comes = new int[31];
            joins = new int[31];
            lost = BigInteger.ZERO;
            work = 0;
            places.get(0).put(0, WHOLE);
            comes[0] = 1;
            return 1;
        }

        int least() {
            for (int p = 0; p < steps.size(); p++) {
                if (!places.get(p).isEmpty()) {
                    return p;
                }
            }
            return -1;
        }

        int done() {
            if (places == null) {
                return -3;
            }
            int p = least();
            if (p < 0) {
                return 1;
            }
            Map.Entry<Integer, BigInteger> first = places.get(p).firstEntry();
            List<TreeMap<Integer, BigInteger>> tried = new ArrayList<>();
            for (TreeMap<Integer, BigInteger> place : places) {
                tried.add(new TreeMap<>(place));
            }
            for (Way way : after(p, vars(first.getKey()), first.getValue())) {
                tried.get(way.place).put(codeAt(way.place, way.vars), BigInteger.ONE);
                if (tried.get(way.place).size() > 200) {
                    return 2;
                }
            }
            return 0;
        }

        int list(int most) {
            if (most < 1 || most > 1000) {
                return -1;
            }
            if (places == null) {
                return -3;
            }
            int spent = 0;
            while (spent < most && done() == 0) {
                int p = least();
                Map.Entry<Integer, BigInteger> first = places.get(p).pollFirstEntry();
                List<Way> ways = after(p, vars(first.getKey()), first.getValue());
                if (ways.isEmpty()) {
                    lost = lost.add(first.getValue());
                }
                for (Way way : ways) {
                    int code = codeAt(way.place, way.vars);
                    comes[way.place]++;
                    joins[way.place] += places.get(way.place).containsKey(code) ? 1 : 0;
                    places.get(way.place).merge(code, way.mass, BigInteger::add);
                }
                spent++;
            }
            work += spent;
            return spent;
        }

        int states(int place, int what) {
            if (place < 0 || place > steps.size() || what < 0 || what > 2) {
                return -1;
            }
            if (places == null) {
                return -3;
            }
            return what == 0 ? places.get(place).size() : what == 1 ? comes[place] : joins[place];
        }

        int code(int place, int i) {
            if (place < 0 || place > steps.size()) {
                return -1;
            }
            if (places == null) {
                return -3;
            }
            if (i < 0 || i >= places.get(place).size()) {
                return -5;
            }
            return new ArrayList<>(places.get(place).keySet()).get(i);
        }

        long mass(int place, int i) {
            int code = code(place, i);
            return code < 0 ? 0 : places.get(place).get(code).longValueExact();
        }

        BigInteger sumOf(int from, int to, int x, int v) {
            BigInteger total = BigInteger.ZERO;
            for (int p = from; p <= to; p++) {
                for (Map.Entry<Integer, BigInteger> state : places.get(p).entrySet()) {
                    if (x < 0 || digit(state.getKey(), x) == v) {
                        total = total.add(state.getValue());
                    }
                }
            }
            return total;
        }

        long sum(int what, int x, int v) {
            boolean fine = what >= 0 && what <= 2 && x >= -1 && x <= 5 && (x == -1 || what != 1 && v >= 0 && v <= 9);
            if (!fine) {
                return -1;
            }
            if (places == null) {
                return -3;
            }
            BigInteger total = what == 1 ? lost
                    : what == 0 ? sumOf(steps.size(), steps.size(), x, v) : sumOf(0, steps.size() - 1, x, v);
            return total.longValueExact();
        }

        long odds(int x, int v, int part) {
            if (x < 0 || x > 5 || v < 0 || v > 9 || part < 0 || part > 1 || !asked[x]) {
                return -1;
            }
            if (done() != 1) {
                return -3;
            }
            BigInteger upper = sumOf(steps.size(), steps.size(), x, v);
            BigInteger lower = sumOf(steps.size(), steps.size(), -1, 0);
            if (lower.signum() == 0) {
                return THROWN;
            }
            return (part == 0 ? upper : lower).divide(upper.gcd(lower)).longValueExact();
        }

        void follow(Way way) {
            if (runCount > 20000) {
                return;
            }
            if (way.place == steps.size()) {
                runCount++;
                ends.add(way);
                return;
            }
            List<Way> ways = after(way.place, way.vars, way.mass);
            if (ways.isEmpty()) {
                runCount++;
            }
            for (Way next : ways) {
                follow(next);
            }
        }

        int runs() {
            if (uneven()) {
                return -4;
            }
            ends = new ArrayList<>();
            runCount = 0;
            follow(new Way(0, new int[6], WHOLE));
            return runCount > 20000 ? -2 : runCount;
        }

        long plain(int x, int v) {
            if (x < -1 || x > 5 || x >= 0 && (v < 0 || v > 9)) {
                return -1;
            }
            int runs = runs();
            if (runs < 0) {
                return runs;
            }
            BigInteger total = BigInteger.ZERO;
            for (Way end : ends) {
                if (x < 0 || end.vars[x] == v) {
                    total = total.add(end.mass);
                }
            }
            return total.longValueExact();
        }

        int count(int what) {
            switch (what) {
                case 0:
                    return steps.size();
                case 1:
                    return kinds('d');
                case 2:
                    return kinds('w');
                case 3:
                    return places == null ? 0 : work;
                default:
                    return -1;
            }
        }
    }

    private static JoinedLists lists;
    private static Model model;
    private static int object;
    private static boolean wide;
    private static int calls;

    private static void due(String call, long got, long want) {
        calls++;
        if (got != want) {
            wrong++;
            if (wrong <= 50) {
                System.out.println("object " + object + ", call " + calls + ": " + call + " answered " + got + ", due is " + want);
            }
        }
    }

    private static int anyTerm() {
        return pick(60) == 0 ? pick(-1, 20) : pick(5) < 4 ? pick(6) : 10 + pick(10);
    }

    private static int anyVariable() {
        return pick(40) == 0 ? pick(-1, 6) : pick(6);
    }

    private static int anyValue() {
        return pick(30) == 0 ? pick(-1, 10) : pick(10);
    }

    private static int anyPlace() {
        return pick(3) == 0 ? model.steps.size() : pick(-1, model.steps.size() + 1);
    }

    private static boolean fineVariable(int x) {
        return x >= 0 && x <= 5;
    }

    private static void weight(int row, int v, int w) {
        boolean fine = row >= 0 && row <= 3 && v >= 0 && v <= 9 && w >= 0 && w <= 60;
        int want = -1;
        if (fine) {
            want = model.weights[row][v];
            model.weights[row][v] = w;
            model.places = null;
        }
        due("weight(" + row + ", " + v + ", " + w + ")", lists.weight(row, v, w), want);
    }

    /** Weights of a row that are 60 together, over few or many values. */
    private static void evenRow(int row, int values) {
        int[] made = new int[10];
        for (int i = 0, left = 60; i < values; i++) {
            int w = i == values - 1 ? left : pick(0, left * 2 / (values - i) > left ? left : left * 2 / (values - i));
            made[pick(2) == 0 ? i : 9 - i] += w;
            left -= w;
        }
        for (int v = 0; v < 10; v++) {
            weight(row, v, made[v]);
        }
    }

    private static void addStep() {
        // Wide programs draw much and cut little, so that places fill up.
        int kind = wide ? pick(20) < 17 ? pick(6) : pick(6, 9) : pick(10);
        if (kind < 3) {
            int x = anyVariable();
            int row = pick(40) == 0 ? pick(-1, 4) : pick(4);
            boolean fine = fineVariable(x) && row >= 0 && row <= 3;
            due("draw(" + x + ", " + row + ")", lists.draw(x, row), fine ? model.add(new Step('d', x, row)) : -1);
        } else if (kind < 6) {
            int x = anyVariable();
            int op = pick(40) == 0 ? pick(-1, 7) : pick(7);
            int a = anyTerm();
            int b = anyTerm();
            boolean fine = fineVariable(x) && op >= 0 && op <= 6 && Model.term(a) && Model.term(b);
            due("set(" + x + ", " + op + ", " + a + ", " + b + ")", lists.set(x, op, a, b),
                    fine ? model.add(new Step('s', x, op, a, b)) : -1);
        } else if (kind < 7) {
            int a = anyTerm();
            int cmp = pick(40) == 0 ? pick(-1, 4) : pick(3) > 0 ? 1 : pick(4);
            int b = anyTerm();
            boolean fine = cmp >= 0 && cmp <= 3 && Model.term(a) && Model.term(b);
            due("observe(" + a + ", " + cmp + ", " + b + ")", lists.observe(a, cmp, b),
                    fine ? model.add(new Step('o', a, cmp, b)) : -1);
        } else if (kind < 8) {
            int a = anyTerm();
            due("weigh(" + a + ")", lists.weigh(a), Model.term(a) ? model.add(new Step('w', a)) : -1);
        } else {
            int a = anyTerm();
            int n = pick(20) == 0 ? pick(-1, 11) : pick(1, 9);
            boolean fine = Model.term(a) && n >= 1 && n <= 9;
            due("skip(" + a + ", " + n + ")", lists.skip(a, n), fine ? model.add(new Step('k', a, n)) : -1);
        }
    }

    private static void ask(int x, boolean on) {
        int want = -1;
        if (fineVariable(x)) {
            want = model.asked[x] ? 1 : 0;
            model.asked[x] = on;
            model.places = null;
        }
        due("ask(" + x + ", " + on + ")", lists.ask(x, on), want);
    }

    private static void odds(int x, int v, int part) {
        long got;
        try {
            got = lists.odds(x, v, part);
        } catch (ArithmeticException e) {
            got = THROWN;
        }
        due("odds(" + x + ", " + v + ", " + part + ")", got, model.odds(x, v, part));
    }

    private static void changeProgram() {
        int kind = pick(20);
        if (kind < 14) {
            addStep();
        } else if (kind < 16) {
            ask(anyVariable(), pick(4) > 0);
        } else if (kind < 17) {
            evenRow(pick(4), pick(1, wide ? 10 : 6));
        } else if (kind < 19) {
            int want = -3;
            if (!model.steps.isEmpty()) {
                model.steps.remove(model.steps.size() - 1);
                model.places = null;
                want = model.steps.size();
            }
            due("drop()", lists.drop(), want);
        } else if (pick(3) == 0) {
            weight(pick(-1, 4), pick(-1, 10), pick(-1, 61));
        } else if (pick(3) == 0) {
            due("clear()", lists.clear(), model.clear());
        }
    }

    private static void lookAtListing() {
        for (int i = 0; i < 3; i++) {
            int place = anyPlace();
            int size = Math.max(0, model.states(place, 0));
            int at = pick(8) == 0 ? pick(-1, 200) : pick(size + 1);
            int what = pick(8) == 0 ? pick(-1, 3) : pick(3);
            due("states(" + place + ", " + what + ")", lists.states(place, what), model.states(place, what));
            due("code(" + place + ", " + at + ")", lists.code(place, at), model.code(place, at));
            due("mass(" + place + ", " + at + ")", lists.mass(place, at), model.mass(place, at));
            int x = pick(3) == 0 ? -1 : pick(-2, 6);
            int v = anyValue();
            int of = pick(8) == 0 ? pick(-1, 3) : pick(3);
            due("sum(" + of + ", " + x + ", " + v + ")", lists.sum(of, x, v), model.sum(of, x, v));
            int asked = anyVariable();
            for (int turn = 0; turn < 3 && fineVariable(asked) && !model.asked[asked]; turn++) {
                asked = anyVariable();
            }
            odds(asked, anyValue(), pick(12) == 0 ? pick(-1, 2) : pick(2));
            int place2 = pick(-1, model.steps.size() + 1);
            boolean fine = place2 >= 0 && place2 <= model.steps.size();
            due("live(" + place2 + ")", lists.live(place2), fine ? model.live(place2) : -1);
        }
        int what = pick(-1, 4);
        due("count(" + what + ")", lists.count(what), model.count(what));
    }

    private static void useListing() {
        due("begin()", lists.begin(), model.begin());
        int turns = pick(1, 6);
        for (int i = 0; i < turns; i++) {
            int work = pick(10) == 0 ? pick(-1, 1002) : pick(3) == 0 ? 1000 : pick(1, 60);
            due("list(" + work + ")", lists.list(work), model.list(work));
            due("done()", lists.done(), model.done());
            if (pick(3) == 0) {
                lookAtListing();
            }
        }
        lookAtListing();
    }

    private static void lookAtRuns() {
        due("runs()", lists.runs(), model.runs());
        int x = pick(8) == 0 ? pick(-2, 6) : pick(-1, 5);
        int v = anyValue();
        due("plain(" + x + ", " + v + ")", lists.plain(x, v), model.plain(x, v));
    }

    private static void oneObject() {
        lists = new JoinedLists();
        model = new Model();
        calls = 0;
        wide = pick(2) == 0;
        for (int row = 0; row < 4; row++) {
            evenRow(row, wide ? pick(3, 10) : pick(1, 5));
        }
        for (int x = 0; x < 6; x++) {
            ask(x, pick(wide ? 8 : 2) > 0);
        }
        while (calls <= CALLS - CALLS_OF_A_TURN) {
            int changes = pick(3, 12);
            for (int i = 0; i < changes; i++) {
                changeProgram();
            }
            useListing();
            if (pick(3) == 0) {
                lookAtRuns();
            }
        }
    }

    public static void main(String[] args) {
        long all = 0;
        for (object = 0; object < OBJECTS; object++) {
            seed = object * 7919L + 17;
            oneObject();
            all += calls;
        }
        System.out.println(wrong == 0 ? "all " + all + " answers are as due" : wrong + " answers are not as due");
        if (wrong != 0) {
            System.exit(1);
        }
    }
}
