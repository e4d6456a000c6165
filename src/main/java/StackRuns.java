import java.util.Arrays;

/** Stacks without end: a machine, one stand, sets of stands, and the runs that lead there. */
public final class StackRuns {
    public static final int NONE = -1, BAD = -2, NOT = -3, FULL = -4;

    private static final int MOST_CONTROLS = 5;
    private static final int MOST_SIGNS = 5;
    private static final int MOST_RULES = 30;
    private static final int MOST_HEIGHT = 60;
    private static final int MOST_SETS = 6;
    private static final int MOST_LINKS = 24;
    private static final int MOST_STEPS = 2000;
    private static final int NODES = 6;

    /** A head is a control with a sign on top; a place of a net is a control or, behind them, a node. */
    private static final int HEADS = MOST_CONTROLS * MOST_SIGNS;
    private static final int PLACES = MOST_CONTROLS + NODES;

    private static final int NO_SIGN = -1;

    /** Numbers of steps are told up to LIMIT; NEVER is above all of them, so that the least wins. */
    private static final long LIMIT = 1000000000000000L;
    private static final long NEVER = 9000000000000000000L;

    private final Rules rules = new Rules();
    private final Stand here = new Stand();
    private final Net[] nets = new Net[MOST_SETS];
    private final Pops pops = new Pops();
    private final Heads heads = new Heads();
    private final Ladder ladder = new Ladder();
    private int sets = 0;

    public StackRuns() {
        for (int i = 0; i < MOST_SETS; i++) {
            nets[i] = new Net();
        }
    }

    public int machine(int n, int m) {
        if (n < 1 || n > MOST_CONTROLS || m < 1 || m > MOST_SIGNS) {
            return BAD;
        }
        int gone = rules.size;
        rules.restart(n, m);
        here.restart(0);
        sets = 0;
        return gone;
    }

    public int rule(int p, int s, int q, int a, int b) {
        if (!rules.isControl(p) || !rules.isSign(s) || !rules.isControl(q)) {
            return BAD;
        }
        boolean fits = a == NO_SIGN ? b == NO_SIGN : rules.isSign(a) && (b == NO_SIGN || rules.isSign(b));
        if (!fits) {
            return BAD;
        }
        if (rules.size == MOST_RULES) {
            return FULL;
        }
        return rules.add(headOf(p, s), q, a, b);
    }

    public int unrule() {
        if (rules.size == 0) {
            return NOT;
        }
        return rules.dropNewest();
    }

    public int stand(int p) {
        if (!rules.isControl(p)) {
            return BAD;
        }
        int had = here.height;
        here.restart(p);
        return had;
    }

    public int push(int s) {
        if (!rules.isSign(s)) {
            return BAD;
        }
        if (here.height == MOST_HEIGHT) {
            return FULL;
        }
        here.cover(s);
        return here.height;
    }

    public int at(int i) {
        if (i < -1 || i >= here.height) {
            return BAD;
        }
        return i == -1 ? here.control : here.signs[here.height - 1 - i];
    }

    public int go(int rule) {
        if (rule < 0 || rule >= rules.size) {
            return BAD;
        }
        if (rules.head[rule] != here.head()) {
            return NOT;
        }
        if (!here.hasRoom(rules, rule)) {
            return FULL;
        }
        here.change(rules, rule);
        return here.height;
    }

    public int set() {
        if (sets == MOST_SETS) {
            return FULL;
        }
        nets[sets].restart();
        sets++;
        return sets - 1;
    }

    public int link(int set, int way, int from, int s, int to) {
        if (!isSet(set) || !isPlace(way, from) || !rules.isSign(s) || to < 0 || to >= NODES) {
            return BAD;
        }
        if (nets[set].links == MOST_LINKS) {
            return FULL;
        }
        return nets[set].join(placeOf(way, from), s, to);
    }

    public int last(int set, int way, int k, boolean is) {
        if (!isSet(set) || !isPlace(way, k)) {
            return BAD;
        }
        return nets[set].mark(placeOf(way, k), is) ? 1 : 0;
    }

    public int unset() {
        if (sets == 0) {
            return NOT;
        }
        sets--;
        return sets;
    }

    public int in(int set) {
        if (!isSet(set)) {
            return BAD;
        }
        return nets[set].holds(here) ? 1 : 0;
    }

    public long far(int set) {
        if (!isSet(set)) {
            return BAD;
        }
        return told(distance(set));
    }

    public int step(int set) {
        if (!isSet(set)) {
            return BAD;
        }
        long distance = distance(set);
        if (distance == 0 || distance >= LIMIT) {
            return NOT;
        }
        int chosen = nearing(set, distance);
        if (chosen < 0) {
            return NOT;
        }
        if (!here.hasRoom(rules, chosen)) {
            return FULL;
        }
        here.change(rules, chosen);
        return chosen;
    }

    public int run(int set, int k) {
        if (!isSet(set) || k < 0 || k > MOST_STEPS) {
            return BAD;
        }
        long distance = distance(set);
        if (distance >= LIMIT) {
            return NOT;
        }
        for (int done = 0; done < k; done++) {
            int chosen = distance > done ? nearing(set, distance - done) : NOT;
            if (chosen < 0 || !here.hasRoom(rules, chosen)) {
                return done;
            }
            int kept = here.height - 1;
            here.change(rules, chosen);
            ladder.build(nets[set], here, kept);
        }
        return k;
    }

    public long pop(int p, int s, int q) {
        if (!rules.isControl(p) || !rules.isSign(s) || !rules.isControl(q)) {
            return BAD;
        }
        pops.renew(rules);
        return told(pops.least[headOf(p, s) * MOST_CONTROLS + q]);
    }

    public int endless() {
        pops.renew(rules);
        heads.renew(rules, pops);
        return heads.goOnFrom(here) ? 1 : 0;
    }

    public int high() {
        pops.renew(rules);
        heads.renew(rules, pops);
        return heads.topFrom(here);
    }

    public int count(int what) {
        switch (what) {
            case 0:
                return rules.controls;
            case 1:
                return rules.alphabet;
            case 2:
                return rules.size;
            case 3:
                return sets;
            case 4:
                return here.height;
            case 5:
                return rules.matching(here.head());
            default:
                return BAD;
        }
    }

    private boolean isSet(int set) {
        return set >= 0 && set < sets;
    }

    private boolean isPlace(int way, int k) {
        return way == 0 ? rules.isControl(k) : way == 1 && k >= 0 && k < NODES;
    }

    private static int placeOf(int way, int k) {
        return way == 0 ? k : MOST_CONTROLS + k;
    }

    private static int headOf(int control, int sign) {
        return control * MOST_SIGNS + sign;
    }

    private static long told(long steps) {
        return steps == NEVER ? NONE : steps;
    }

    private static boolean hasBit(int bits, int i) {
        return (bits >> i & 1) != 0;
    }

    /** Sums stick at LIMIT: they never overflow, and a very long run stays apart from none. */
    private static long sum(long a, long b) {
        if (a == NEVER || b == NEVER) {
            return NEVER;
        }
        return Math.min(LIMIT, a + b);
    }

    /** Leaves the ladder built for this set, as nearing() needs it. */
    private long distance(int set) {
        Net net = nets[set];
        pops.renew(rules);
        net.renew(rules, pops);
        ladder.start(net);
        ladder.build(net, here, 0);
        return ladder.rows[here.height * PLACES + here.control];
    }

    /** The first rule that goes and leaves one step less than the distance, or NOT. */
    private int nearing(int set, long distance) {
        int head = here.head();
        for (int r = 0; r < rules.size; r++) {
            if (rules.head[r] == head && ladder.after(nets[set], rules, r, here.height - 1) == distance - 1) {
                return r;
            }
        }
        return NOT;
    }

    /** The rules in the order they were told, and how many controls and signs there are. */
    private static final class Rules {
        private int controls = 2;
        private int alphabet = 2;
        private int size = 0;
        /** Changes with the rules, so that tables made from them know when they are stale. */
        private int stamp = 0;
        private final int[] head = new int[MOST_RULES];
        private final int[] to = new int[MOST_RULES];
        private final int[] top = new int[MOST_RULES];
        private final int[] below = new int[MOST_RULES];

        void restart(int n, int m) {
            controls = n;
            alphabet = m;
            size = 0;
            stamp++;
        }

        boolean isControl(int p) {
            return p >= 0 && p < controls;
        }

        boolean isSign(int s) {
            return s >= 0 && s < alphabet;
        }

        int add(int from, int q, int a, int b) {
            head[size] = from;
            to[size] = q;
            top[size] = a;
            below[size] = b;
            size++;
            stamp++;
            return size - 1;
        }

        int dropNewest() {
            size--;
            stamp++;
            return size;
        }

        int matching(int wanted) {
            int found = 0;
            for (int r = 0; r < size; r++) {
                if (head[r] == wanted) {
                    found++;
                }
            }
            return found;
        }
    }

    /** The stand at hand; its signs lie with the lowest first, so that the top is where the row grows. */
    private static final class Stand {
        private int control = 0;
        private int height = 0;
        private final int[] signs = new int[MOST_HEIGHT];

        void restart(int p) {
            control = p;
            height = 0;
        }

        void cover(int s) {
            signs[height] = s;
            height++;
        }

        /** No rule has the head -1: at an empty stack none goes. */
        int head() {
            return height == 0 ? -1 : headOf(control, signs[height - 1]);
        }

        boolean hasRoom(Rules rules, int r) {
            return rules.below[r] == NO_SIGN || height < MOST_HEIGHT;
        }

        void change(Rules rules, int r) {
            height--;
            if (rules.below[r] != NO_SIGN) {
                cover(rules.below[r]);
            }
            if (rules.top[r] != NO_SIGN) {
                cover(rules.top[r]);
            }
            control = rules.to[r];
        }
    }

    /** The least number of steps to pop a sign, for each head and each control behind it. */
    private static final class Pops {
        private final long[] least = new long[HEADS * MOST_CONTROLS];
        private int seen = -1;

        /**
         * Lowers the numbers round by round until they rest. A shortest run never pops a sign within the same
         * pop, so there are never more rounds to go than there are numbers.
         */
        void renew(Rules rules) {
            if (seen == rules.stamp) {
                return;
            }
            seen = rules.stamp;
            Arrays.fill(least, NEVER);
            boolean better = true;
            for (int round = 0; better && round <= least.length; round++) {
                better = false;
                for (int r = 0; r < rules.size; r++) {
                    better = lowerBy(rules, r) || better;
                }
            }
        }

        private boolean lowerBy(Rules rules, int r) {
            int base = rules.head[r] * MOST_CONTROLS;
            if (rules.top[r] == NO_SIGN) {
                return lower(base + rules.to[r], 1);
            }
            int inner = headOf(rules.to[r], rules.top[r]) * MOST_CONTROLS;
            boolean better = false;
            for (int x = 0; x < rules.controls; x++) {
                long first = sum(1, least[inner + x]);
                if (first != NEVER) {
                    boolean lowered = rules.below[r] == NO_SIGN
                        ? lower(base + x, first) : lowerRow(rules, base, first, headOf(x, rules.below[r]));
                    better = lowered || better;
                }
            }
            return better;
        }

        private boolean lowerRow(Rules rules, int base, long first, int next) {
            boolean better = false;
            for (int x = 0; x < rules.controls; x++) {
                better = lower(base + x, sum(first, least[next * MOST_CONTROLS + x])) || better;
            }
            return better;
        }

        private boolean lower(int i, long steps) {
            if (steps >= least[i]) {
                return false;
            }
            least[i] = steps;
            return true;
        }
    }

    /** The net of a set, and what it costs to come from a head to a place of it. */
    private static final class Net {
        private int links = 0;
        private int lastPlaces = 0;
        private final int[] hops = new int[PLACES * MOST_SIGNS];
        private final long[] cost = new long[HEADS * PLACES];
        private boolean stale = true;
        private int seen = -1;

        void restart() {
            links = 0;
            lastPlaces = 0;
            Arrays.fill(hops, 0);
            stale = true;
        }

        int join(int place, int s, int node) {
            hops[place * MOST_SIGNS + s] |= 1 << node;
            links++;
            stale = true;
            return links;
        }

        boolean mark(int place, boolean is) {
            boolean was = isLast(place);
            lastPlaces = is ? lastPlaces | (1 << place) : lastPlaces & ~(1 << place);
            return was;
        }

        boolean isLast(int place) {
            return hasBit(lastPlaces, place);
        }

        boolean hasHop(int place, int s, int node) {
            return hasBit(hops[place * MOST_SIGNS + s], node);
        }

        boolean holds(Stand stand) {
            int places = 1 << stand.control;
            for (int i = stand.height - 1; i >= 0; i--) {
                places = allHops(places, stand.signs[i]) << MOST_CONTROLS;
            }
            return (places & lastPlaces) != 0;
        }

        private int allHops(int places, int s) {
            int nodes = 0;
            for (int place = 0; place < PLACES; place++) {
                if (hasBit(places, place)) {
                    nodes |= hops[place * MOST_SIGNS + s];
                }
            }
            return nodes;
        }

        /** To a control it costs a pop; to a node a run to what the net leads there, by links without a step. */
        void renew(Rules rules, Pops pops) {
            if (!stale && seen == rules.stamp) {
                return;
            }
            stale = false;
            seen = rules.stamp;
            startFrom(pops);
            boolean better = true;
            for (int round = 0; better && round <= cost.length; round++) {
                better = false;
                for (int r = 0; r < rules.size; r++) {
                    better = lowerBy(rules, r) || better;
                }
            }
        }

        private void startFrom(Pops pops) {
            for (int head = 0; head < HEADS; head++) {
                for (int q = 0; q < MOST_CONTROLS; q++) {
                    cost[head * PLACES + q] = pops.least[head * MOST_CONTROLS + q];
                }
                for (int node = 0; node < NODES; node++) {
                    boolean hop = hasHop(head / MOST_SIGNS, head % MOST_SIGNS, node);
                    cost[head * PLACES + MOST_CONTROLS + node] = hop ? 0 : NEVER;
                }
            }
        }

        private boolean lowerBy(Rules rules, int r) {
            if (rules.top[r] == NO_SIGN) {
                return false;
            }
            int inner = headOf(rules.to[r], rules.top[r]) * PLACES;
            boolean better = false;
            for (int place = 0; place < PLACES; place++) {
                long first = sum(1, cost[inner + place]);
                if (first != NEVER) {
                    boolean lowered = rules.below[r] == NO_SIGN
                        ? lower(rules.head[r], place, first) : lowerRow(rules.head[r], first, place, rules.below[r]);
                    better = lowered || better;
                }
            }
            return better;
        }

        private boolean lowerRow(int head, long first, int place, int s) {
            boolean better = false;
            for (int node = MOST_CONTROLS; node < PLACES; node++) {
                better = lower(head, node, sum(first, through(place, s, node))) || better;
            }
            return better;
        }

        private boolean lower(int head, int place, long steps) {
            if (steps >= cost[head * PLACES + place]) {
                return false;
            }
            cost[head * PLACES + place] = steps;
            return true;
        }

        long through(int place, int s, int next) {
            if (place < MOST_CONTROLS) {
                return cost[headOf(place, s) * PLACES + next];
            }
            return next >= MOST_CONTROLS && hasHop(place, s, next - MOST_CONTROLS) ? 0 : NEVER;
        }
    }

    /** For each height of the stand's stack and each place: the steps that the signs below still cost. */
    private static final class Ladder {
        private final long[] rows = new long[(MOST_HEIGHT + 1) * PLACES];

        void start(Net net) {
            for (int place = 0; place < PLACES; place++) {
                rows[place] = net.isLast(place) ? 0 : NEVER;
            }
        }

        /** Rows up to the height that was kept are still true, as nothing has changed below it. */
        void build(Net net, Stand stand, int kept) {
            for (int i = kept; i < stand.height; i++) {
                for (int place = 0; place < PLACES; place++) {
                    rows[(i + 1) * PLACES + place] = across(net, place, stand.signs[i], i);
                }
            }
        }

        long across(Net net, int place, int s, int height) {
            long best = NEVER;
            for (int next = 0; next < PLACES; next++) {
                long rest = rows[height * PLACES + next];
                if (rest < best) {
                    best = Math.min(best, sum(net.through(place, s, next), rest));
                }
            }
            return best;
        }

        /** The distance when the rule has gone, with so many signs below those that it puts. */
        long after(Net net, Rules rules, int r, int height) {
            int q = rules.to[r];
            if (rules.top[r] == NO_SIGN) {
                return rows[height * PLACES + q];
            }
            if (rules.below[r] == NO_SIGN) {
                return across(net, q, rules.top[r], height);
            }
            long best = NEVER;
            for (int next = 0; next < PLACES; next++) {
                long first = net.through(q, rules.top[r], next);
                if (first < best) {
                    best = Math.min(best, sum(first, across(net, next, rules.below[r], height)));
                }
            }
            return best;
        }
    }

    /**
     * Which heads follow one another when what is below is not touched. A run without end is, from some
     * height on, a circle of heads; a stack without bound is a circle on which a sign is left below.
     */
    private static final class Heads {
        /** By head: the controls with which it can be popped, and the heads that one or more moves lead to. */
        private final int[] exits = new int[HEADS];
        private final int[] ahead = new int[HEADS];
        private final int[] tallest = new int[HEADS];
        private int circling = 0;
        private int boundless = 0;
        private int seen = -1;

        void renew(Rules rules, Pops pops) {
            if (seen == rules.stamp) {
                return;
            }
            seen = rules.stamp;
            findExits(pops);
            findAhead(rules);
            findCircles(rules);
            findTallest(rules);
        }

        private void findExits(Pops pops) {
            for (int head = 0; head < HEADS; head++) {
                exits[head] = 0;
                for (int q = 0; q < MOST_CONTROLS; q++) {
                    if (pops.least[head * MOST_CONTROLS + q] != NEVER) {
                        exits[head] |= 1 << q;
                    }
                }
            }
        }

        private void findAhead(Rules rules) {
            Arrays.fill(ahead, 0);
            for (int r = 0; r < rules.size; r++) {
                if (rules.top[r] != NO_SIGN) {
                    ahead[rules.head[r]] |= (1 << headOf(rules.to[r], rules.top[r])) | uncovered(rules, r);
                }
            }
            for (int middle = 0; middle < HEADS; middle++) {
                for (int head = 0; head < HEADS; head++) {
                    if (hasBit(ahead[head], middle)) {
                        ahead[head] |= ahead[middle];
                    }
                }
            }
        }

        /** The heads that come when the upper of the rule's two signs has been popped. */
        private int uncovered(Rules rules, int r) {
            int found = 0;
            if (rules.below[r] != NO_SIGN) {
                int left = exits[headOf(rules.to[r], rules.top[r])];
                for (int q = 0; q < MOST_CONTROLS; q++) {
                    if (hasBit(left, q)) {
                        found |= 1 << headOf(q, rules.below[r]);
                    }
                }
            }
            return found;
        }

        private void findCircles(Rules rules) {
            int onCircle = 0;
            for (int head = 0; head < HEADS; head++) {
                onCircle |= ahead[head] & (1 << head);
            }
            int onRise = 0;
            for (int r = 0; r < rules.size; r++) {
                if (rules.below[r] != NO_SIGN) {
                    int inner = headOf(rules.to[r], rules.top[r]);
                    onRise |= (ahead[inner] | (1 << inner)) & (1 << rules.head[r]);
                }
            }
            circling = leadingTo(onCircle);
            boundless = leadingTo(onRise);
        }

        private int leadingTo(int wanted) {
            int found = 0;
            for (int head = 0; head < HEADS; head++) {
                if (((ahead[head] | (1 << head)) & wanted) != 0) {
                    found |= 1 << head;
                }
            }
            return found;
        }

        /** Without the boundless heads no circle rises, so that a round for each head is enough. */
        private void findTallest(Rules rules) {
            Arrays.fill(tallest, 1);
            boolean better = true;
            for (int round = 0; better && round <= HEADS; round++) {
                better = false;
                for (int r = 0; r < rules.size; r++) {
                    boolean bounded = !hasBit(boundless, rules.head[r]);
                    better = bounded && raiseBy(rules, r) || better;
                }
            }
        }

        private boolean raiseBy(Rules rules, int r) {
            if (rules.top[r] == NO_SIGN) {
                return false;
            }
            int left = rules.below[r] == NO_SIGN ? 0 : 1;
            int reached = tallest[headOf(rules.to[r], rules.top[r])] + left;
            int shown = uncovered(rules, r);
            for (int head = 0; head < HEADS; head++) {
                if (hasBit(shown, head)) {
                    reached = Math.max(reached, tallest[head]);
                }
            }
            if (reached <= tallest[rules.head[r]]) {
                return false;
            }
            tallest[rules.head[r]] = reached;
            return true;
        }

        boolean goOnFrom(Stand stand) {
            int controls = 1 << stand.control;
            for (int i = stand.height - 1; i >= 0; i--) {
                if ((headsOf(controls, stand.signs[i]) & circling) != 0) {
                    return true;
                }
                controls = allExits(controls, stand.signs[i]);
            }
            return false;
        }

        int topFrom(Stand stand) {
            int top = stand.height;
            int controls = 1 << stand.control;
            for (int i = stand.height - 1; i >= 0; i--) {
                int shown = headsOf(controls, stand.signs[i]);
                if ((shown & boundless) != 0) {
                    return NONE;
                }
                for (int head = 0; head < HEADS; head++) {
                    if (hasBit(shown, head)) {
                        top = Math.max(top, i + tallest[head]);
                    }
                }
                controls = allExits(controls, stand.signs[i]);
            }
            return top;
        }

        private int headsOf(int controls, int s) {
            int found = 0;
            for (int q = 0; q < MOST_CONTROLS; q++) {
                if (hasBit(controls, q)) {
                    found |= 1 << headOf(q, s);
                }
            }
            return found;
        }

        private int allExits(int controls, int s) {
            int found = 0;
            for (int q = 0; q < MOST_CONTROLS; q++) {
                if (hasBit(controls, q)) {
                    found |= exits[headOf(q, s)];
                }
            }
            return found;
        }
    }
}
