import java.util.ArrayDeque;
import java.util.ArrayList;
import java.util.HashMap;
import java.util.List;
import java.util.Map;
import java.util.Random;

/** Random calls against a plain model, which finds runs by going through the stands one by one. */
public final class SearchTest {
    private static final int NONE = StackRuns.NONE, BAD = StackRuns.BAD, NOT = StackRuns.NOT, FULL = StackRuns.FULL;
    private static final int MOST_STANDS = 400;
    private static int wrong = 0;
    private static int sure = 0;
    private static int unsure = 0;

    /** A net as its links were told: {way, from, s, to}. */
    private static final class Net {
        final List<int[]> links = new ArrayList<>();
        final boolean[][] last = new boolean[2][6];

        boolean holds(String stand) {
            int control = stand.charAt(0) - '0';
            if (stand.length() == 1) {
                return last[0][control];
            }
            boolean[] nodes = next(0, only(control), stand.charAt(1) - '0');
            for (int i = 2; i < stand.length(); i++) {
                nodes = next(1, nodes, stand.charAt(i) - '0');
            }
            for (int k = 0; k < 6; k++) {
                if (nodes[k] && last[1][k]) {
                    return true;
                }
            }
            return false;
        }

        private boolean[] only(int k) {
            boolean[] places = new boolean[6];
            places[k] = true;
            return places;
        }

        private boolean[] next(int way, boolean[] from, int s) {
            boolean[] nodes = new boolean[6];
            for (int[] l : links) {
                nodes[l[3]] |= l[0] == way && from[l[1]] && l[2] == s;
            }
            return nodes;
        }
    }

    /** A stand is a text: its control, then its signs, the top one first. */
    private static final class Model {
        int n = 2;
        int m = 2;
        final List<int[]> rules = new ArrayList<>();
        final List<Net> nets = new ArrayList<>();
        String stand = "0";

        boolean goes(int[] r, String from) {
            return from.length() > 1 && from.charAt(0) - '0' == r[0] && from.charAt(1) - '0' == r[1];
        }

        String gone(int[] r, String from) {
            return r[2] + (r[3] < 0 ? "" : "" + r[3]) + (r[4] < 0 ? "" : "" + r[4]) + from.substring(2);
        }

        boolean control(int p) {
            return 0 <= p && p < n;
        }

        boolean sign(int s) {
            return 0 <= s && s < m;
        }

        boolean place(int way, int k) {
            return way == 0 ? control(k) : way == 1 && 0 <= k && k < 6;
        }

        boolean isSet(int set) {
            return 0 <= set && set < nets.size();
        }

        StackRuns build() {
            StackRuns x = new StackRuns();
            x.machine(n, m);
            for (int[] r : rules) {
                x.rule(r[0], r[1], r[2], r[3], r[4]);
            }
            for (Net net : nets) {
                int set = x.set();
                for (int[] l : net.links) {
                    x.link(set, l[0], l[1], l[2], l[3]);
                }
                for (int k = 0; k < 6; k++) {
                    x.last(set, 1, k, net.last[1][k]);
                    x.last(set, 0, k, net.last[0][k]);
                }
            }
            x.stand(stand.charAt(0) - '0');
            for (int i = stand.length() - 1; i > 0; i--) {
                x.push(stand.charAt(i) - '0');
            }
            return x;
        }
    }

    /** The stands that runs lead to, the nearest first, as far as the search came. */
    private static final class Search {
        final Map<String, Integer> steps = new HashMap<>();
        final List<String> order = new ArrayList<>();
        final Model model;
        boolean whole = true;
        /** All stands up to this many steps have been found. */
        int depth = 0;

        Search(Model model, String from) {
            this.model = model;
            steps.put(from, 0);
            order.add(from);
            for (int i = 0; i < order.size(); i++) {
                String at = order.get(i);
                depth = steps.get(at);
                if (order.size() > MOST_STANDS) {
                    whole = false;
                    return;
                }
                for (int[] r : model.rules) {
                    if (model.goes(r, at) && steps.putIfAbsent(model.gone(r, at), depth + 1) == null) {
                        order.add(model.gone(r, at));
                    }
                }
            }
        }

        int highest() {
            int most = 0;
            for (String at : order) {
                most = Math.max(most, at.length() - 1);
            }
            return most;
        }

        /** Takes off stands that none leads to; a circle is what is left. */
        boolean hasCircle() {
            Map<String, Integer> before = new HashMap<>();
            for (String at : order) {
                for (int[] r : model.rules) {
                    if (model.goes(r, at)) {
                        before.merge(model.gone(r, at), 1, Integer::sum);
                    }
                }
            }
            ArrayDeque<String> free = new ArrayDeque<>();
            for (String at : order) {
                if (!before.containsKey(at)) {
                    free.add(at);
                }
            }
            int taken = 0;
            while (!free.isEmpty()) {
                String at = free.remove();
                taken++;
                for (int[] r : model.rules) {
                    if (model.goes(r, at) && before.merge(model.gone(r, at), -1, Integer::sum) == 0) {
                        free.add(model.gone(r, at));
                    }
                }
            }
            return taken < order.size();
        }
    }

    private final Random random;
    private final Model model = new Model();
    private final StackRuns x = new StackRuns();
    private final StringBuilder told = new StringBuilder();

    private SearchTest(long seed) {
        random = new Random(seed);
    }

    private void due(String call, long got, boolean right, String want) {
        told.append("  ").append(call).append(" = ").append(got).append('\n');
        if (!right) {
            wrong++;
            if (wrong < 4) {
                System.out.println("WRONG, due is " + want + ", in\n" + told);
            }
        }
    }

    private void due(String call, long got, long want) {
        due(call, got, got == want, "" + want);
    }

    /** Mostly within 0 .. bound - 1, at times beside it. */
    private int any(int bound) {
        return bound <= 0 || random.nextInt(25) == 0 ? random.nextInt(Math.max(bound, 0) + 5) - 3 : random.nextInt(bound);
    }

    private void machine() {
        int n = random.nextInt(20) == 0 ? random.nextInt(8) - 1 : 1 + random.nextInt(random.nextBoolean() ? 3 : 5);
        int m = random.nextInt(20) == 0 ? random.nextInt(8) - 1 : 1 + random.nextInt(random.nextBoolean() ? 3 : 5);
        boolean fits = n >= 1 && n <= 5 && m >= 1 && m <= 5;
        due("machine(" + n + ", " + m + ")", x.machine(n, m), fits ? model.rules.size() : BAD);
        if (fits) {
            model.n = n;
            model.m = m;
            model.rules.clear();
            model.nets.clear();
            model.stand = "0";
        }
    }

    private void rule() {
        int kind = random.nextInt(5);
        int[] r = {any(model.n), any(model.m), any(model.n), kind < 2 ? -1 : any(model.m), kind < 4 ? -1 : any(model.m)};
        boolean fits = model.control(r[0]) && model.sign(r[1]) && model.control(r[2])
            && (r[3] == -1 ? r[4] == -1 : model.sign(r[3]) && (r[4] == -1 || model.sign(r[4])));
        boolean full = model.rules.size() == 30;
        String call = "rule(" + r[0] + ", " + r[1] + ", " + r[2] + ", " + r[3] + ", " + r[4] + ")";
        due(call, x.rule(r[0], r[1], r[2], r[3], r[4]), !fits ? BAD : full ? FULL : model.rules.size());
        if (fits && !full) {
            model.rules.add(r);
        }
    }

    private void unrule() {
        int size = model.rules.size();
        due("unrule()", x.unrule(), size == 0 ? NOT : size - 1);
        if (size > 0) {
            model.rules.remove(size - 1);
        }
    }

    private void stand() {
        int p = any(model.n);
        due("stand(" + p + ")", x.stand(p), model.control(p) ? model.stand.length() - 1 : BAD);
        if (model.control(p)) {
            model.stand = "" + p;
        }
    }

    private void push() {
        int s = any(model.m);
        int height = model.stand.length() - 1;
        due("push(" + s + ")", x.push(s), !model.sign(s) ? BAD : height == 60 ? FULL : height + 1);
        if (model.sign(s) && height < 60) {
            model.stand = model.stand.charAt(0) + "" + s + model.stand.substring(1);
        }
    }

    private void at() {
        int i = any(model.stand.length()) - 1;
        boolean fits = i >= -1 && i + 1 < model.stand.length();
        due("at(" + i + ")", x.at(i), fits ? model.stand.charAt(i + 1) - '0' : BAD);
    }

    private void go() {
        int rule = any(model.rules.size());
        int want = BAD;
        String gone = model.stand;
        if (rule >= 0 && rule < model.rules.size()) {
            int[] r = model.rules.get(rule);
            want = NOT;
            if (model.goes(r, model.stand)) {
                gone = model.gone(r, model.stand);
                want = gone.length() > 61 ? FULL : gone.length() - 1;
            }
        }
        due("go(" + rule + ")", x.go(rule), want);
        if (want >= 0) {
            model.stand = gone;
        }
    }

    private void set() {
        int size = model.nets.size();
        due("set()", x.set(), size == 6 ? FULL : size);
        if (size < 6) {
            model.nets.add(new Net());
        }
    }

    private void link() {
        int set = any(model.nets.size());
        int way = random.nextInt(30) == 0 ? 2 : random.nextInt(2);
        int from = any(way == 0 ? model.n : 6);
        int s = any(model.m);
        int to = any(6);
        boolean fits = model.isSet(set) && model.place(way, from) && model.sign(s) && model.place(1, to);
        boolean full = fits && model.nets.get(set).links.size() == 24;
        String call = "link(" + set + ", " + way + ", " + from + ", " + s + ", " + to + ")";
        int got = x.link(set, way, from, s, to);
        due(call, got, !fits ? BAD : full ? FULL : model.nets.get(set).links.size() + 1);
        if (fits && !full) {
            model.nets.get(set).links.add(new int[] {way, from, s, to});
        }
    }

    private void last() {
        int set = any(model.nets.size());
        int way = random.nextInt(30) == 0 ? -1 : random.nextInt(2);
        int k = any(way == 0 ? model.n : 6);
        boolean is = random.nextInt(4) != 0;
        boolean fits = model.isSet(set) && model.place(way, k);
        int want = !fits ? BAD : model.nets.get(set).last[way][k] ? 1 : 0;
        due("last(" + set + ", " + way + ", " + k + ", " + is + ")", x.last(set, way, k, is), want);
        if (fits) {
            model.nets.get(set).last[way][k] = is;
        }
    }

    private void unset() {
        int size = model.nets.size();
        due("unset()", x.unset(), size == 0 ? NOT : size - 1);
        if (size > 0) {
            model.nets.remove(size - 1);
        }
    }

    private void in() {
        int set = any(model.nets.size());
        due("in(" + set + ")", x.in(set), !model.isSet(set) ? BAD : model.nets.get(set).holds(model.stand) ? 1 : 0);
    }

    /** Whether an answer fits what the search knows: exact where it is whole, else no less than its depth. */
    private boolean fits(Search search, int found, long got) {
        if (found >= 0) {
            sure++;
            return got == found;
        }
        if (search.whole) {
            sure++;
            return got == NONE;
        }
        unsure++;
        return got == NONE || got > search.depth;
    }

    private void far() {
        int set = any(model.nets.size());
        if (!model.isSet(set)) {
            due("far(" + set + ")", x.far(set), BAD);
            return;
        }
        Search search = new Search(model, model.stand);
        int found = -1;
        for (int i = 0; i < search.order.size() && found < 0; i++) {
            String at = search.order.get(i);
            if (model.nets.get(set).holds(at)) {
                found = search.steps.get(at);
            }
        }
        long got = x.far(set);
        due("far(" + set + ")", got, fits(search, found, got), "searched " + found);
        checkNeighbours(set, got);
    }

    /** Far is nought in the set and one more than the nearest of the next stands elsewhere. */
    private void checkNeighbours(int set, long got) {
        if (x.in(set) == 1) {
            due("far in the set", got, 0);
            return;
        }
        long nearest = Long.MAX_VALUE;
        for (int r = 0; r < model.rules.size(); r++) {
            long next = nextFar(set, r);
            nearest = next >= 0 ? Math.min(nearest, next) : nearest;
        }
        due("far beside the next", got, nearest == Long.MAX_VALUE ? NONE : Math.min(1000000000000000L, nearest + 1));
    }

    private long nextFar(int set, int rule) {
        StackRuns copy = model.build();
        return copy.go(rule) < 0 ? NONE : copy.far(set);
    }

    private void step() {
        int set = any(model.nets.size());
        int want = BAD;
        if (model.isSet(set)) {
            long far = x.far(set);
            want = NOT;
            for (int r = 0; r < model.rules.size() && far > 0 && want == NOT; r++) {
                if (nextFar(set, r) == far - 1) {
                    want = r;
                }
            }
            if (model.stand.length() == 61) {
                return;
            }
        }
        due("step(" + set + ")", x.step(set), want);
        if (want >= 0) {
            model.stand = model.gone(model.rules.get(want), model.stand);
        }
    }

    private void run() {
        int set = any(model.nets.size());
        int k = random.nextInt(10) == 0 ? random.nextInt(2100) - 50 : any(30);
        if (!model.isSet(set) || k < 0 || k > 2000) {
            due("run(" + set + ", " + k + ")", x.run(set, k), BAD);
            return;
        }
        int want = 0;
        StackRuns copy = model.build();
        if (copy.far(set) < 0) {
            want = NOT;
        }
        while (want >= 0 && want < k) {
            int rule = copy.step(set);
            if (rule < 0) {
                break;
            }
            model.stand = model.gone(model.rules.get(rule), model.stand);
            want++;
        }
        due("run(" + set + ", " + k + ")", x.run(set, k), want);
        checkStand();
    }

    private void checkStand() {
        StringBuilder got = new StringBuilder();
        for (int i = -1; i < x.count(4); i++) {
            got.append(x.at(i));
        }
        due("the stand is " + got, 0, got.toString().equals(model.stand), model.stand);
    }

    private void pop() {
        int p = any(model.n);
        int s = any(model.m);
        int q = any(model.n);
        String call = "pop(" + p + ", " + s + ", " + q + ")";
        if (!model.control(p) || !model.sign(s) || !model.control(q)) {
            due(call, x.pop(p, s, q), BAD);
            return;
        }
        Search search = new Search(model, p + "" + s);
        int found = search.steps.getOrDefault("" + q, -1);
        due(call, x.pop(p, s, q), fits(search, found, x.pop(p, s, q)), "searched " + found);
    }

    private void endlessAndHigh() {
        Search search = new Search(model, model.stand);
        if (search.whole) {
            sure++;
            due("endless()", x.endless(), search.hasCircle() ? 1 : 0);
            due("high()", x.high(), search.highest());
        } else {
            unsure++;
            int high = x.high();
            due("high()", high, high == NONE || high >= search.highest(), "at least " + search.highest());
            due("endless()", x.endless(), high >= 0 || x.endless() == 1, "1, as high() is none");
        }
    }

    private void count() {
        int what = random.nextInt(8) - 1;
        int going = 0;
        for (int[] r : model.rules) {
            going += model.goes(r, model.stand) ? 1 : 0;
        }
        int[] want = {BAD, model.n, model.m, model.rules.size(), model.nets.size(), model.stand.length() - 1, going, BAD};
        due("count(" + what + ")", x.count(what), want[what + 1]);
    }

    private void tell() {
        int kind = random.nextInt(20);
        if (kind < 6) {
            rule();
        } else if (kind < 8) {
            unrule();
        } else if (kind < 9) {
            stand();
        } else if (kind < 11) {
            push();
        } else if (kind < 12) {
            go();
        } else if (kind < 13) {
            set();
        } else if (kind < 17) {
            link();
        } else if (kind < 19) {
            last();
        } else if (random.nextInt(4) == 0) {
            unset();
        }
    }

    private void ask() {
        switch (random.nextInt(9)) {
            case 0 -> at();
            case 1 -> in();
            case 2, 3 -> far();
            case 4 -> step();
            case 5 -> run();
            case 6 -> pop();
            case 7 -> endlessAndHigh();
            default -> count();
        }
    }

    private void all() {
        machine();
        int rules = random.nextInt(12);
        for (int i = 0; i < rules; i++) {
            rule();
        }
        for (int i = 0; i < 10; i++) {
            set();
            link();
            link();
            last();
        }
        for (int i = 0; i < 120; i++) {
            tell();
            if (model.stand.length() == 1) {
                push();
                push();
            }
            ask();
        }
        checkStand();
    }

    public static void main(String[] args) {
        int runs = args.length > 0 ? Integer.parseInt(args[0]) : 250;
        for (int seed = 1; seed <= runs; seed++) {
            new SearchTest(seed).all();
        }
        System.out.println(sure + " answers searched through, " + unsure + " in part");
        System.out.println(wrong == 0 ? "all answers are as due" : wrong + " answers are not as due");
        if (wrong != 0) {
            System.exit(1);
        }
    }
}
