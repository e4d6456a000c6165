import java.util.ArrayList;
import java.util.Arrays;
import java.util.List;

/**
 * "Refused, and nothing changes": each refused call is made on an object in a known state, and then all that later
 * calls show is laid beside what they show on a twin that was never refused anything. Calls that only ask are looked
 * at in the same way.
 */
public final class RefusedTest {
    private static final int BAD = StackRuns.BAD, NOT = StackRuns.NOT, FULL = StackRuns.FULL;
    private static final int LEAST = Integer.MIN_VALUE, MOST = Integer.MAX_VALUE;
    private static int wrong = 0;
    private static int made = 0;

    private interface Call {
        long on(StackRuns x);
    }

    /** Calls that look at an object, in few enough calls that it is used for no more than 512 in all. */
    private interface Look {
        long[] at(StackRuns x);
    }

    private record Refusal(String told, long want, Call call) {
    }

    private record State(String name, Call history, List<Refusal> refusals) {
        State(String name, Call history) {
            this(name, history, new ArrayList<>());
        }

        void refuses(int want, String told, Call call) {
            refusals.add(new Refusal(told, want, call));
        }

        /** A call that only asks: whatever it answers, nothing changes either. */
        void asks(String told, Call call) {
            refusals.add(new Refusal(told, call.on(twin()), call));
        }

        StackRuns twin() {
            StackRuns x = new StackRuns();
            history.on(x);
            return x;
        }
    }

    /** A row of answers that grows. */
    private static final class Answers {
        private final List<Long> all = new ArrayList<>();

        void add(long answer) {
            all.add(answer);
        }

        long[] row() {
            return all.stream().mapToLong(Long::longValue).toArray();
        }
    }

    // ---- what later calls show

    private static long[] lookAtCountsAndStand(StackRuns x) {
        Answers seen = new Answers();
        for (int what = -1; what <= 6; what++) {
            seen.add(x.count(what));
        }
        for (int i = -2; i <= 61; i++) {
            seen.add(x.at(i));
        }
        return seen.row();
    }

    private static long[] lookAtPops(StackRuns x) {
        Answers seen = new Answers();
        for (int i = 0; i < 125; i++) {
            seen.add(x.pop(i / 25, i / 5 % 5, i % 5));
        }
        return seen.row();
    }

    private static long[] lookAtRuns(StackRuns x) {
        Answers seen = new Answers();
        seen.add(x.endless());
        seen.add(x.high());
        for (int set = 0; set < 6; set++) {
            seen.add(x.in(set));
            seen.add(x.far(set));
            seen.add(x.run(set, 0));
        }
        return seen.row();
    }

    private static long[] lookAtLastOnes(StackRuns x) {
        Answers seen = new Answers();
        for (int set = 0; set < 6; set++) {
            for (int k = 0; k < 6; k++) {
                seen.add(x.last(set, 0, k, false));
                seen.add(x.last(set, 1, k, false));
            }
        }
        return seen.row();
    }

    private static long[] lookAtRoom(StackRuns x) {
        Answers seen = new Answers();
        for (int set = 0; set < 6; set++) {
            seen.add(x.link(set, 0, 0, 0, 0));
        }
        seen.add(x.push(0));
        seen.add(x.set());
        seen.add(x.rule(0, 0, 0, -1, -1));
        for (int i = 0; i < 7; i++) {
            seen.add(x.unset());
        }
        for (int i = 0; i < 31; i++) {
            seen.add(x.unrule());
            seen.add(x.pop(0, 0, 0));
        }
        seen.add(x.machine(1, 1));
        return seen.row();
    }

    private static long[] lookAtMachine(StackRuns x) {
        return new long[] {x.machine(5, 5), x.set(), x.in(0), x.far(0), x.count(2), x.count(4), x.at(-1)};
    }

    private static long[] lookAtRun(StackRuns x, int set) {
        Answers seen = new Answers();
        seen.add(x.run(set, 2000));
        for (long answer : lookAtCountsAndStand(x)) {
            seen.add(answer);
        }
        return seen.row();
    }

    private static long[] lookAtSteps(StackRuns x, int set) {
        Answers seen = new Answers();
        for (int i = 0; i < 20; i++) {
            seen.add(x.step(set));
            seen.add(x.at(-1));
            seen.add(x.at(0));
        }
        return seen.row();
    }

    /** Where each rule leads from a control and a sign. */
    private static long[] lookAtRules(StackRuns x, int p, int s) {
        Answers seen = new Answers();
        for (int r = 0; r < 30; r++) {
            x.stand(p);
            x.push(s);
            seen.add(x.go(r));
            for (int i = -1; i <= 1; i++) {
                seen.add(x.at(i));
            }
        }
        return seen.row();
    }

    /** Which sets hold the stands of a control with two signs. */
    private static long[] lookAtSets(StackRuns x, int p) {
        Answers seen = new Answers();
        for (int i = 0; i < 25; i++) {
            x.stand(p);
            x.push(i / 5);
            x.push(i % 5);
            for (int set = 0; set < 6; set++) {
                seen.add(x.in(set));
            }
        }
        return seen.row();
    }

    private static long[] lookAtSmallStands(StackRuns x) {
        Answers seen = new Answers();
        for (int i = 0; i < 30; i++) {
            x.stand(i / 6);
            if (i % 6 < 5) {
                x.push(i % 6);
            }
            for (int set = 0; set < 6; set++) {
                seen.add(x.in(set));
            }
        }
        return seen.row();
    }

    private static List<Look> looks() {
        List<Look> looks = new ArrayList<>(List.of(RefusedTest::lookAtCountsAndStand, RefusedTest::lookAtPops,
            RefusedTest::lookAtRuns, RefusedTest::lookAtLastOnes, RefusedTest::lookAtRoom, RefusedTest::lookAtMachine,
            RefusedTest::lookAtSmallStands));
        for (int i = 0; i < 6; i++) {
            int set = i;
            looks.add(x -> lookAtRun(x, set));
            looks.add(x -> lookAtSteps(x, set));
        }
        for (int i = 0; i < 5; i++) {
            int p = i;
            looks.add(x -> lookAtSets(x, p));
            for (int j = 0; j < 5; j++) {
                int s = j;
                looks.add(x -> lookAtRules(x, p, s));
            }
        }
        return looks;
    }

    private static void check(State state) {
        List<Look> looks = looks();
        List<long[]> unrefused = new ArrayList<>();
        for (Look look : looks) {
            unrefused.add(look.at(state.twin()));
        }
        for (Refusal refusal : state.refusals()) {
            made++;
            for (int i = 0; i < looks.size(); i++) {
                StackRuns x = state.twin();
                long got = refusal.call().on(x);
                String where = state.name() + ": " + refusal.told();
                if (got != refusal.want()) {
                    fail(where + " answered " + got + ", due is " + refusal.want());
                    break;
                }
                long[] seen = looks.get(i).at(x);
                if (!Arrays.equals(seen, unrefused.get(i))) {
                    fail(where + " should change nothing, and yet look " + i + " shows " + Arrays.toString(seen) + ", due is "
                        + Arrays.toString(unrefused.get(i)));
                    break;
                }
            }
        }
    }

    private static void fail(String what) {
        wrong++;
        System.out.println(what);
    }

    // ---- what is refused in any state

    /** Numbers that are no control, sign, set, node, way, rule, place of a stack, or what may be counted. */
    private static void addBadOnes(State state, int n, int m, int rules, int sets, int height) {
        for (int bad : new int[] {0, 6, -1, LEAST, MOST}) {
            state.refuses(BAD, "machine(" + bad + ", 1)", x -> x.machine(bad, 1));
            state.refuses(BAD, "machine(1, " + bad + ")", x -> x.machine(1, bad));
        }
        for (int bad : new int[] {-1, n, LEAST, MOST}) {
            state.refuses(BAD, "rule from " + bad, x -> x.rule(bad, 0, 0, -1, -1));
            state.refuses(BAD, "rule to " + bad, x -> x.rule(0, 0, bad, -1, -1));
            state.refuses(BAD, "stand " + bad, x -> x.stand(bad));
            state.refuses(BAD, "link from control " + bad, x -> x.link(0, 0, bad, 0, 0));
            state.refuses(BAD, "last of control " + bad, x -> x.last(0, 0, bad, true));
            state.refuses(BAD, "pop from " + bad, x -> x.pop(bad, 0, 0));
            state.refuses(BAD, "pop to " + bad, x -> x.pop(0, 0, bad));
        }
        for (int bad : new int[] {-1, m, LEAST, MOST}) {
            state.refuses(BAD, "rule of sign " + bad, x -> x.rule(0, bad, 0, -1, -1));
            state.refuses(BAD, "push " + bad, x -> x.push(bad));
            state.refuses(BAD, "link by " + bad, x -> x.link(0, 0, 0, bad, 0));
            state.refuses(BAD, "pop of sign " + bad, x -> x.pop(0, bad, 0));
        }
        for (int bad : new int[] {-2, m, LEAST, MOST}) {
            state.refuses(BAD, "rule with " + bad, x -> x.rule(0, 0, 0, bad, -1));
            state.refuses(BAD, "rule with two, the first " + bad, x -> x.rule(0, 0, 0, bad, 0));
            state.refuses(BAD, "rule with two, the second " + bad, x -> x.rule(0, 0, 0, 0, bad));
        }
        state.refuses(BAD, "rule with a -1, b 0", x -> x.rule(0, 0, 0, -1, 0));
        for (int bad : new int[] {-1, rules, LEAST, MOST}) {
            state.refuses(BAD, "go " + bad, x -> x.go(bad));
        }
        for (int bad : new int[] {-1, 6, LEAST, MOST}) {
            state.refuses(BAD, "link from node " + bad, x -> x.link(0, 1, bad, 0, 0));
            state.refuses(BAD, "link to node " + bad, x -> x.link(0, 0, 0, 0, bad));
            state.refuses(BAD, "last of node " + bad, x -> x.last(0, 1, bad, true));
            state.refuses(BAD, "count " + bad, x -> x.count(bad));
        }
        for (int bad : new int[] {-2, height, LEAST, MOST}) {
            state.refuses(BAD, "at " + bad, x -> x.at(bad));
        }
        addBadWaysAndSets(state, sets);
    }

    private static void addBadWaysAndSets(State state, int sets) {
        for (int bad : new int[] {-1, 2, LEAST, MOST}) {
            state.refuses(BAD, "link of way " + bad, x -> x.link(0, bad, 0, 0, 0));
            state.refuses(BAD, "last of way " + bad, x -> x.last(0, bad, 0, true));
        }
        for (int bad : new int[] {-1, sets, LEAST, MOST}) {
            state.refuses(BAD, "link of set " + bad, x -> x.link(bad, 0, 0, 0, 0));
            state.refuses(BAD, "last of set " + bad, x -> x.last(bad, 0, 0, true));
            state.refuses(BAD, "in " + bad, x -> x.in(bad));
            state.refuses(BAD, "far " + bad, x -> x.far(bad));
            state.refuses(BAD, "step " + bad, x -> x.step(bad));
            state.refuses(BAD, "run " + bad, x -> x.run(bad, 5));
        }
        for (int bad : new int[] {-1, 2001, LEAST, MOST}) {
            state.refuses(BAD, "run up to " + bad, x -> x.run(0, bad));
        }
    }

    private static void addAsks(State state) {
        state.asks("endless", StackRuns::endless);
        state.asks("high", StackRuns::high);
        for (int i = 0; i < 6; i++) {
            int set = i;
            state.asks("in", x -> x.in(set));
            state.asks("far", x -> x.far(set));
            state.asks("run up to none", x -> x.run(set, 0));
            state.asks("count", x -> x.count(set));
            state.asks("at", x -> x.at(set - 1));
            state.asks("pop", x -> x.pop(set % 3, set % 2, set % 3));
        }
    }

    // ---- the states

    private static State newObject() {
        State state = new State("a new object", x -> 0);
        addBadOnes(state, 2, 2, 0, 0, 0);
        state.refuses(NOT, "unrule", StackRuns::unrule);
        state.refuses(NOT, "unset", StackRuns::unset);
        return state;
    }

    /** Set 0 is three steps off, set 1 is where it stands, set 2 is never come to. */
    private static long tellSome(StackRuns x) {
        x.machine(3, 3);
        int[][] rules = {{1, 2, 0, 1, 1}, {0, 1, 1, -1, -1}, {1, 1, 2, 2, -1}, {2, 2, 1, -1, -1}, {1, 2, 1, 0, -1},
            {1, 0, 1, -1, -1}, {2, 0, 2, 0, 0}};
        for (int[] r : rules) {
            x.rule(r[0], r[1], r[2], r[3], r[4]);
        }
        x.set();
        x.last(0, 0, 1, true);
        x.link(0, 0, 2, 2, 3);
        x.link(0, 1, 3, 2, 3);
        x.link(0, 1, 3, 2, 4);
        x.last(0, 1, 4, true);
        x.set();
        x.link(1, 0, 1, 2, 0);
        x.link(1, 1, 0, 2, 0);
        x.last(1, 1, 0, true);
        x.set();
        x.link(2, 0, 0, 0, 5);
        x.last(2, 1, 5, true);
        x.stand(1);
        for (int i = 0; i < 5; i++) {
            x.push(2);
        }
        return 0;
    }

    private static State someRules() {
        State state = new State("some rules and sets", RefusedTest::tellSome);
        addBadOnes(state, 3, 3, 7, 3, 5);
        for (int r : new int[] {1, 2, 3, 5, 6}) {
            state.refuses(NOT, "go " + r, x -> x.go(r));
        }
        state.refuses(NOT, "step, in already", x -> x.step(1));
        state.refuses(NOT, "step, no run", x -> x.step(2));
        state.refuses(NOT, "run, no run", x -> x.run(2, 2000));
        state.refuses(NOT, "run up to none, no run", x -> x.run(2, 0));
        return state;
    }

    private static State emptyStack() {
        State state = new State("an empty stack", x -> tellSome(x) + x.stand(2));
        addBadOnes(state, 3, 3, 7, 3, 0);
        for (int i = 0; i < 7; i++) {
            int r = i;
            state.refuses(NOT, "go " + r, x -> x.go(r));
        }
        for (int i = 0; i < 3; i++) {
            int set = i;
            state.refuses(NOT, "step", x -> x.step(set));
            state.refuses(NOT, "run", x -> x.run(set, 7));
        }
        return state;
    }

    /** Five controls and signs, thirty rules, six sets with 24 links each, sixty signs. */
    private static long tellAll(StackRuns x) {
        x.machine(5, 5);
        for (int head = 0; head < 25; head++) {
            int a = head % 2 == 0 ? -1 : (head + 1) % 5;
            x.rule(head / 5, head % 5, (head * 2 + 1) % 5, a, -1);
        }
        for (int p = 0; p < 5; p++) {
            x.rule(p, 4 - p, (p + 2) % 5, p, (p + 3) % 5);
        }
        for (int set = 0; set < 6; set++) {
            x.set();
            for (int i = 0; i < 24; i++) {
                x.link(set, i % 2, i % 5, (i / 2 + set) % 5, (i + set) % 6);
            }
            x.last(set, 0, set % 5, true);
            x.last(set, 1, set, true);
        }
        for (int i = 0; i < 60; i++) {
            x.push(i % 5);
        }
        return 0;
    }

    private static State allFull() {
        State state = new State("all is full", RefusedTest::tellAll);
        addBadOnes(state, 5, 5, 30, 6, 60);
        state.refuses(FULL, "rule", x -> x.rule(0, 0, 0, -1, -1));
        state.refuses(FULL, "rule", x -> x.rule(4, 4, 4, 4, 4));
        state.refuses(FULL, "push", x -> x.push(3));
        state.refuses(FULL, "set", StackRuns::set);
        for (int i = 0; i < 6; i++) {
            int set = i;
            state.refuses(FULL, "link of a control", x -> x.link(set, 0, 4, 4, 5));
            state.refuses(FULL, "link of a node", x -> x.link(set, 1, 5, 0, 5));
        }
        state.refuses(NOT, "go", x -> x.go(0));
        return state;
    }

    /** Sixty signs, and what there is to go needs room for one more. */
    private static State noRoom() {
        State state = new State("no room", x -> {
            x.machine(2, 2);
            x.rule(0, 0, 1, 1, 0);
            x.rule(1, 1, 0, -1, -1);
            x.set();
            x.link(0, 0, 1, 1, 0);
            x.link(0, 1, 0, 0, 0);
            x.last(0, 1, 0, true);
            for (int i = 0; i < 60; i++) {
                x.push(0);
            }
            return x.far(0);
        });
        state.refuses(FULL, "go", x -> x.go(0));
        state.refuses(NOT, "go", x -> x.go(1));
        state.refuses(FULL, "step", x -> x.step(0));
        state.refuses(FULL, "push", x -> x.push(1));
        state.refuses(0, "run, as there is no room", x -> x.run(0, 2000));
        return state;
    }

    public static void main(String[] args) {
        for (State state : List.of(newObject(), someRules(), emptyStack(), allFull(), noRoom())) {
            addAsks(state);
            check(state);
        }
        System.out.println(made + " refusals and asks");
        System.out.println(wrong == 0 ? "nothing changes" : wrong + " refusals and asks are not as due");
        if (wrong != 0) {
            System.exit(1);
        }
    }
}
