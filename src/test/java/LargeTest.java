import java.math.BigInteger;
import java.util.Arrays;
import java.util.Random;

/** Long runs, too long to be gone: pops and far against exact numbers that are found the least one first. */
public final class LargeTest {
    private static final BigInteger LIMIT = BigInteger.valueOf(1000000000000000L);
    private static int wrong = 0;
    private static BigInteger greatest = BigInteger.ZERO;

    /** A machine, found by climbing, in which some signs cost over two thousand million steps. */
    private static final int[][] DEEP = {{0, 4, 1, 3, 2}, {1, 3, 2, 3, 0}, {4, 3, 0, 2, 3}, {1, 0, 3, 0, 2},
        {3, 4, 0, 3, 3}, {1, 3, 3, 2, 2}, {0, 1, 0, 0, 1}, {2, 3, 4, 1, 2}, {4, 4, 0, 4, 2}, {0, 0, 2, 0, 1},
        {2, 1, 0, 1, -1}, {4, 1, 3, 0, 0}, {0, 2, 3, 3, 3}, {1, 0, 0, -1, -1}, {2, 0, 3, 0, 1}, {3, 1, 2, -1, -1},
        {1, 4, 2, 4, 3}, {3, 3, 4, 2, 2}, {1, 1, 3, -1, -1}, {3, 0, 3, 3, 1}, {4, 2, 4, 4, 2}, {3, 2, 3, 4, 1},
        {2, 4, 4, 3, 3}, {3, 4, 2, 1, 1}, {2, 2, 3, 2, 1}, {4, 3, 4, 0, 4}, {2, 0, 1, -1, -1}, {0, 3, 4, 0, 0},
        {0, 4, 4, -1, -1}, {4, 0, 1, 4, 3}};

    /** Another one, in which some cost over fifteen thousand million steps: more than 33 bits hold. */
    private static final int[][] DEEPER = {{0, 1, 2, -1, -1}, {4, 2, 2, 4, 4}, {2, 2, 0, 1, 2}, {1, 4, 3, 3, 4},
        {3, 0, 3, 2, 3}, {0, 0, 2, 3, 3}, {3, 1, 1, 1, 0}, {2, 4, 1, 2, 3}, {0, 2, 1, 0, 0}, {1, 1, 4, 1, 0},
        {0, 2, 0, 3, 2}, {2, 3, 3, 1, 0}, {3, 0, 1, 0, 2}, {2, 0, 2, 3, 1}, {3, 3, 4, 2, 4}, {4, 4, 1, -1, -1},
        {4, 0, 4, 4, 4}, {3, 3, 0, -1, -1}, {3, 2, 0, 0, 4}, {0, 4, 4, -1, -1}, {1, 0, 2, 2, 2}, {0, 3, 2, 4, 2},
        {2, 1, 2, 0, 0}, {2, 0, 0, 0, 0}, {2, 0, 4, 0, 0}, {4, 1, 2, 1, 0}, {4, 3, 2, 3, 4}, {1, 3, 3, -1, -1},
        {1, 2, 3, 0, 4}, {0, 1, 0, 2, 2}};

    private static void due(String what, long got, BigInteger want) {
        long told = want == null ? StackRuns.NONE : want.min(LIMIT).longValueExact();
        if (want != null) {
            greatest = greatest.max(want);
        }
        if (got != told) {
            wrong++;
            System.out.println(what + " answered " + got + ", due is " + told);
        }
    }

    private static BigInteger sum(BigInteger a, BigInteger b) {
        return a == null || b == null ? null : a.add(b);
    }

    private static BigInteger least(BigInteger a, BigInteger b) {
        return a == null ? b : b == null ? a : a.min(b);
    }

    /** Each turn settles the least number that the settled ones yield: none found later can be less. */
    private static BigInteger[][][] pops(int[][] rules) {
        BigInteger[][][] settled = new BigInteger[5][5][5];
        for (int turn = 0; turn < 125; turn++) {
            BigInteger best = null;
            int[] where = null;
            for (int[] r : rules) {
                for (int q = 0; q < 5; q++) {
                    BigInteger found = settled[r[0]][r[1]][q] == null ? byRule(settled, r, q) : null;
                    if (found != null && (best == null || found.compareTo(best) < 0)) {
                        best = found;
                        where = new int[] {r[0], r[1], q};
                    }
                }
            }
            if (best == null) {
                return settled;
            }
            settled[where[0]][where[1]][where[2]] = best;
        }
        return settled;
    }

    private static BigInteger byRule(BigInteger[][][] settled, int[] r, int q) {
        if (r[3] < 0) {
            return r[2] == q ? BigInteger.ONE : null;
        }
        if (r[4] < 0) {
            return sum(BigInteger.ONE, settled[r[2]][r[3]][q]);
        }
        BigInteger best = null;
        for (int y = 0; y < 5; y++) {
            best = least(best, sum(settled[r[2]][r[3]][y], settled[y][r[4]][q]));
        }
        return sum(BigInteger.ONE, best);
    }

    private static BigInteger[] emptied(BigInteger[][][] pops, int p, int[] topFirst) {
        BigInteger[] row = new BigInteger[5];
        row[p] = BigInteger.ZERO;
        for (int s : topFirst) {
            BigInteger[] next = new BigInteger[5];
            for (int x = 0; x < 5; x++) {
                for (int q = 0; q < 5; q++) {
                    next[q] = least(next[q], sum(row[x], pops[x][s][q]));
                }
            }
            row = next;
        }
        return row;
    }

    /** A set for each control: its stand with an empty stack. */
    private static StackRuns told(int[][] rules) {
        StackRuns x = new StackRuns();
        x.machine(5, 5);
        for (int[] r : rules) {
            x.rule(r[0], r[1], r[2], r[3], r[4]);
        }
        for (int q = 0; q < 5; q++) {
            x.last(x.set(), 0, q, true);
        }
        return x;
    }

    private static void check(int[][] rules, Random random) {
        StackRuns x = told(rules);
        BigInteger[][][] pops = pops(rules);
        for (int i = 0; i < 125; i++) {
            due("pop " + i, x.pop(i / 25, i / 5 % 5, i % 5), pops[i / 25][i / 5 % 5][i % 5]);
        }
        for (int round = 0; round < 4; round++) {
            int[] topFirst = new int[60];
            for (int i = 59; i >= 0; i--) {
                topFirst[i] = random.nextInt(5);
            }
            checkFar(x, pops, random.nextInt(5), topFirst);
        }
    }

    private static void checkFar(StackRuns x, BigInteger[][][] pops, int p, int[] topFirst) {
        x.stand(p);
        for (int i = topFirst.length - 1; i >= 0; i--) {
            x.push(topFirst[i]);
        }
        BigInteger[] row = emptied(pops, p, topFirst);
        for (int q = 0; q < 5; q++) {
            due("far to control " + q, x.far(q), row[q]);
        }
    }

    /** Sixty times the same sign, so that the dearest pops add up. */
    private static void checkPiles(int[][] rules) {
        BigInteger[][][] pops = pops(rules);
        for (int i = 0; i < 25; i++) {
            int[] topFirst = new int[60];
            Arrays.fill(topFirst, i % 5);
            checkFar(told(rules), pops, i / 5, topFirst);
        }
    }

    private static int[] anyRule(Random random) {
        int kind = random.nextInt(8);
        return new int[] {random.nextInt(5), random.nextInt(5), random.nextInt(5), kind < 2 ? -1 : random.nextInt(5),
            kind < 3 ? -1 : random.nextInt(5)};
    }

    public static void main(String[] args) {
        Random random = new Random(7);
        check(DEEP, random);
        check(DEEPER, random);
        checkPiles(DEEP);
        checkPiles(DEEPER);
        for (int i = 0; i < 150; i++) {
            int[][] rules = i % 2 == 0 ? DEEP.clone() : new int[30][];
            for (int r = 0; r < 30; r++) {
                if (rules[r] == null || random.nextInt(10) == 0) {
                    rules[r] = anyRule(random);
                }
            }
            check(rules, random);
        }
        System.out.println("greatest number: " + greatest);
        System.out.println(wrong == 0 ? "all answers are as due" : wrong + " answers are not as due");
        if (wrong != 0) {
            System.exit(1);
        }
    }
}
