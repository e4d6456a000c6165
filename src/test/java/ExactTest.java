import java.util.ArrayList;
import java.util.Comparator;
import java.util.HashMap;
import java.util.List;
import java.util.Map;
import java.util.PriorityQueue;
import java.util.Random;

/**
 * Large machines and high stacks against exact answers for stacks of any height, so that runs are seen as far as
 * the roof of THE STAND and beyond it. HIGH and ENDLESS are asked of the model as questions of reach alone.
 */
public final class ExactTest {
    private static final int NONE = StackRuns.NONE, NOT = StackRuns.NOT, FULL = StackRuns.FULL;
    private static final int ROOF = 60;
    private static final int MOST_CALLS = 512;
    private static int wrong = 0;
    private static final Map<String, Integer> seen = new HashMap<>();

    private static void see(String what) {
        seen.merge(what, 1, Integer::sum);
    }

    /** A way from a place by a sign to a place, and its steps. */
    private record Way(int from, int s, int to, long steps) { }

    /** Places are the controls 0 .. 4 and, from 5 on, as many nodes as are wanted. */
    private static final class Net {
        final List<int[]> links = new ArrayList<>();
        final List<Integer> last = new ArrayList<>();
    }

    /** All ways that runs make through a net, the shortest settled first: none that is found later is shorter. */
    private static final class Ways {
        private final List<int[]> rules;
        private final Net net;
        private final Map<List<Integer>, Long> settled = new HashMap<>();
        private final Map<List<Integer>, List<Way>> leaving = new HashMap<>();
        private final Map<Integer, List<Way>> entering = new HashMap<>();
        private final PriorityQueue<Way> open = new PriorityQueue<>(Comparator.comparingLong(Way::steps));

        Ways(List<int[]> rules, Net net) {
            this.rules = rules;
            this.net = net;
            for (int[] l : net.links) {
                open.add(new Way(l[0], l[1], l[2], 0));
            }
            for (int[] r : rules) {
                if (r[3] < 0) {
                    open.add(new Way(r[0], r[1], r[2], 1));
                }
            }
            while (!open.isEmpty()) {
                Way w = open.remove();
                if (settled.putIfAbsent(List.of(w.from, w.s, w.to), w.steps) == null) {
                    leaving.computeIfAbsent(List.of(w.from, w.s), k -> new ArrayList<>()).add(w);
                    entering.computeIfAbsent(w.to, k -> new ArrayList<>()).add(w);
                    spread(w);
                }
            }
        }

        private void spread(Way w) {
            for (int[] r : rules) {
                boolean upper = r[3] == w.s && r[2] == w.from;
                if (upper && r[4] < 0) {
                    open.add(new Way(r[0], r[1], w.to, w.steps + 1));
                }
                if (upper && r[4] >= 0) {
                    for (Way next : leaving.getOrDefault(List.of(w.to, r[4]), List.of())) {
                        open.add(new Way(r[0], r[1], next.to, w.steps + next.steps + 1));
                    }
                }
                if (r[4] == w.s) {
                    for (Way first : entering.getOrDefault(w.from, List.of())) {
                        if (first.from == r[2] && first.s == r[3]) {
                            open.add(new Way(r[0], r[1], w.to, first.steps + w.steps + 1));
                        }
                    }
                }
            }
        }

        /** From the top down: the least steps to each place, sign by sign. */
        long far(String stand) {
            Map<Integer, Long> row = new HashMap<>();
            row.put(stand.charAt(0) - '0', 0L);
            for (int i = 1; i < stand.length(); i++) {
                Map<Integer, Long> next = new HashMap<>();
                for (Map.Entry<Integer, Long> e : row.entrySet()) {
                    for (Way w : leaving.getOrDefault(List.of(e.getKey(), stand.charAt(i) - '0'), List.of())) {
                        next.merge(w.to, e.getValue() + w.steps, Math::min);
                    }
                }
                row = next;
            }
            long best = Long.MAX_VALUE;
            for (int place : net.last) {
                best = Math.min(best, row.getOrDefault(place, Long.MAX_VALUE));
            }
            return best == Long.MAX_VALUE ? NONE : best;
        }
    }

    private final Random random;
    private final StackRuns x = new StackRuns();
    private final StringBuilder told = new StringBuilder();
    private final List<int[]> rules = new ArrayList<>();
    private final List<Net> nets = new ArrayList<>();
    private final List<Ways> ways = new ArrayList<>();
    private String stand = "0";
    private int n = 2;
    private int m = 2;
    private int calls = 0;

    private ExactTest(long seed) {
        random = new Random(seed);
    }

    private void due(String call, long got, long want) {
        calls++;
        told.append("  ").append(call).append(" = ").append(got).append('\n');
        if (got != want || calls > MOST_CALLS) {
            wrong++;
            if (wrong < 3) {
                System.out.println("WRONG at call " + calls + ", due is " + want + ", in\n" + told);
            }
        }
    }

    private boolean goes(int[] r, String at) {
        return at.length() > 1 && at.charAt(0) - '0' == r[0] && at.charAt(1) - '0' == r[1];
    }

    private String gone(int[] r, String at) {
        return r[2] + (r[3] < 0 ? "" : "" + r[3]) + (r[4] < 0 ? "" : "" + r[4]) + at.substring(2);
    }

    private void tellMachine() {
        n = 1 + random.nextInt(5);
        m = 1 + random.nextInt(5);
        due("machine(" + n + ", " + m + ")", x.machine(n, m), 0);
        int most = random.nextBoolean() ? 30 : 1 + random.nextInt(n * m + 3);
        int pops = 1 + random.nextInt(4);
        int swaps = 1 + random.nextInt(4);
        for (int i = 0; i < Math.min(most, 30); i++) {
            tellRule(pops, swaps);
        }
    }

    private void tellRule(int pops, int swaps) {
        int kind = random.nextInt(pops + swaps + 1 + random.nextInt(5));
        int a = kind < pops ? -1 : random.nextInt(m);
        int b = kind < pops + swaps ? -1 : random.nextInt(m);
        int[] r = {random.nextInt(n), random.nextInt(m), random.nextInt(n), a, b};
        due("rule(" + r[0] + ", " + r[1] + ", " + r[2] + ", " + a + ", " + b + ")", x.rule(r[0], r[1], r[2], a, b),
            rules.size());
        rules.add(r);
        ways.clear();
    }

    private void tellSet() {
        int set = nets.size();
        due("set()", x.set(), set);
        nets.add(new Net());
        int links = random.nextBoolean() ? 24 : random.nextInt(12);
        for (int i = 0; i < links; i++) {
            tellLink(set);
        }
        int marks = 1 + random.nextInt(3);
        for (int i = 0; i < marks; i++) {
            tellLast(set, true);
        }
        ways.clear();
    }

    private void tellLink(int set) {
        int way = random.nextInt(3) == 0 ? 0 : 1;
        int from = random.nextInt(way == 0 ? n : 6);
        int s = random.nextInt(m);
        int to = random.nextInt(6);
        Net net = nets.get(set);
        due("link(" + set + ", " + way + ", " + from + ", " + s + ", " + to + ")", x.link(set, way, from, s, to),
            net.links.size() == 24 ? FULL : net.links.size() + 1);
        if (net.links.size() < 24) {
            net.links.add(new int[] {way * 5 + from, s, 5 + to});
        }
        ways.clear();
    }

    private void tellLast(int set, boolean is) {
        int way = random.nextInt(3) == 0 ? 0 : 1;
        int k = random.nextInt(way == 0 ? n : 6);
        Integer place = way * 5 + k;
        List<Integer> last = nets.get(set).last;
        boolean was = last.remove(place);
        if (is) {
            last.add(place);
        }
        due("last(" + set + ", " + way + ", " + k + ", " + is + ")", x.last(set, way, k, is), was ? 1 : 0);
    }

    private void tellStand() {
        int p = random.nextInt(n);
        due("stand(" + p + ")", x.stand(p), stand.length() - 1);
        int height = random.nextBoolean() ? ROOF - random.nextInt(3) : random.nextInt(12);
        boolean even = random.nextBoolean();
        int one = random.nextInt(m);
        stand = "" + p;
        for (int i = 0; i < height; i++) {
            int s = even ? one : random.nextInt(m);
            stand = p + "" + s + stand.substring(1);
            due("push(" + s + ")", x.push(s), i + 1);
        }
    }

    private Ways waysTo(int set) {
        if (ways.isEmpty()) {
            for (Net net : nets) {
                ways.add(new Ways(rules, net));
            }
        }
        return ways.get(set);
    }

    /** The first rule that makes FAR one less, or NOT; the next stand may be higher than the roof. */
    private int nearing(int set) {
        long far = waysTo(set).far(stand);
        for (int r = 0; r < rules.size() && far > 0; r++) {
            if (goes(rules.get(r), stand) && waysTo(set).far(gone(rules.get(r), stand)) == far - 1) {
                return r;
            }
        }
        return NOT;
    }

    private void askStep(int set) {
        int rule = nearing(set);
        boolean room = rule < 0 || gone(rules.get(rule), stand).length() - 1 <= ROOF;
        see(!room ? "step: FULL" : rule < 0 ? "step: NOT" : "step: gone");
        due("step(" + set + ")", x.step(set), room ? rule : FULL);
        if (room && rule >= 0) {
            stand = gone(rules.get(rule), stand);
        }
    }

    private void askRun(int set) {
        int k = random.nextInt(random.nextBoolean() ? 4 : 60);
        if (waysTo(set).far(stand) == NONE) {
            see("run: NOT");
            due("run(" + set + ", " + k + ")", x.run(set, k), NOT);
            return;
        }
        int done = 0;
        String why = "run: all k";
        for (boolean on = true; on && done < k; ) {
            int rule = nearing(set);
            on = rule >= 0 && gone(rules.get(rule), stand).length() - 1 <= ROOF;
            why = on ? why : rule < 0 ? "run: comes to the set" : "run: comes to the roof";
            stand = on ? gone(rules.get(rule), stand) : stand;
            done += on ? 1 : 0;
        }
        see(why);
        due("run(" + set + ", " + k + ")", x.run(set, k), done);
    }

    private void askFar(int set) {
        long far = waysTo(set).far(stand);
        see(far == NONE ? "far: NONE" : far == 0 ? "far: 0" : far < 10 ? "far: 1 .. 9" : "far: 10 and more");
        due("far(" + set + ")", x.far(set), far);
        due("in(" + set + ")", x.in(set), far == 0 ? 1 : 0);
    }

    private void askPop() {
        int p = random.nextInt(n);
        int s = random.nextInt(m);
        int q = random.nextInt(n);
        Net net = new Net();
        net.last.add(q);
        due("pop(" + p + ", " + s + ", " + q + ")", x.pop(p, s, q), new Ways(rules, net).far(p + "" + s));
    }

    /** A net of all stands of at least so many signs. */
    private Net atLeast(int height) {
        Net net = new Net();
        for (int s = 0; s < m; s++) {
            for (int i = 0; i < n; i++) {
                net.links.add(new int[] {i, s, 6});
            }
            for (int i = 1; i < height; i++) {
                net.links.add(new int[] {5 + i, s, 6 + i});
            }
            net.links.add(new int[] {5 + height, s, 5 + height});
        }
        net.last.add(5 + height);
        return net;
    }

    /**
     * One sign grows by less than there are pairs of a control and a sign, or without end: on more heights than
     * that some pair comes twice, and what is between can be gone again and again.
     */
    private void askHigh() {
        int height = stand.length() - 1;
        int low = height;
        int beyond = height + n * m + 1;
        while (low + 1 < beyond) {
            int middle = (low + beyond) / 2;
            if (new Ways(rules, atLeast(middle)).far(stand) == NONE) {
                beyond = middle;
            } else {
                low = middle;
            }
        }
        boolean none = low == height + n * m;
        see(none ? "high: NONE" : low == height ? "high: as it is" : low > ROOF ? "high: above the roof" : "high: more");
        due("high()", x.high(), none ? NONE : low);
    }

    /** A net of all stands with this control and this sign on top. */
    private Net withHead(int p, int s) {
        Net net = new Net();
        net.links.add(new int[] {p, s, 5});
        for (int t = 0; t < m; t++) {
            net.links.add(new int[] {5, t, 5});
        }
        net.last.add(5);
        return net;
    }

    /** For ever: some control and sign on top can be reached that, alone, come back on top by one step or more. */
    private void askEndless() {
        boolean endless = false;
        for (int i = 0; i < n * m && !endless; i++) {
            Ways back = new Ways(rules, withHead(i / m, i % m));
            if (back.far(stand) != NONE) {
                String head = i / m + "" + i % m;
                for (int[] r : rules) {
                    endless |= goes(r, head) && back.far(gone(r, head)) != NONE;
                }
            }
        }
        see(endless ? "endless: 1" : "endless: 0");
        due("endless()", x.endless(), endless ? 1 : 0);
    }

    private void askCount() {
        int going = 0;
        for (int[] r : rules) {
            going += goes(r, stand) ? 1 : 0;
        }
        due("count(5)", x.count(5), going);
        due("count(4)", x.count(4), stand.length() - 1);
        due("at(-1)", x.at(-1), stand.charAt(0) - '0');
        for (int i = 0; i < Math.min(3, stand.length() - 1); i++) {
            due("at(" + i + ")", x.at(i), stand.charAt(i + 1) - '0');
        }
    }

    private void change() {
        int kind = random.nextInt(5);
        int set = random.nextInt(nets.size());
        if (kind == 0 && !rules.isEmpty()) {
            due("unrule()", x.unrule(), rules.size() - 1);
            rules.remove(rules.size() - 1);
            ways.clear();
        } else if (kind == 1 && rules.size() < 30) {
            tellRule(2, 1);
        } else if (kind == 2) {
            tellLink(set);
        } else if (kind == 3) {
            tellLast(set, random.nextBoolean());
        }
    }

    private void all() {
        tellMachine();
        tellSet();
        tellSet();
        for (int round = 0; round < 4; round++) {
            tellStand();
            askHigh();
            askEndless();
            for (int i = 0; i < 3; i++) {
                int set = random.nextInt(nets.size());
                askFar(set);
                askStep(set);
                askRun(set);
                askFar(1 - set);
                askPop();
            }
            askCount();
            change();
        }
    }

    public static void main(String[] args) {
        int first = args.length > 0 ? Integer.parseInt(args[0]) : 1;
        int runs = args.length > 1 ? Integer.parseInt(args[1]) : 120;
        for (int seed = first; seed < first + runs; seed++) {
            new ExactTest(seed).all();
        }
        System.out.println(seen);
        System.out.println(wrong == 0 ? "all answers are as due" : wrong + " answers are not as due");
        if (wrong != 0) {
            System.exit(1);
        }
    }
}
