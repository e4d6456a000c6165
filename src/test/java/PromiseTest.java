/** Each promise with ordinary inputs, the edges that the document names, and wrong inputs. */
public final class PromiseTest {
    private static final int NONE = StackRuns.NONE, BAD = StackRuns.BAD, NOT = StackRuns.NOT, FULL = StackRuns.FULL;
    private static final int LEAST = Integer.MIN_VALUE, MOST = Integer.MAX_VALUE;
    private static int wrong = 0;

    private static void due(String what, long got, long want) {
        if (got != want) {
            wrong++;
            System.out.println(what + " answered " + got + ", due is " + want);
        }
    }

    /** The counts of controls, signs, rules, sets, signs of the stack and rules that go. */
    private static void counts(String what, StackRuns x, int... want) {
        for (int i = 0; i < want.length; i++) {
            due(what + ": count(" + i + ")", x.count(i), want[i]);
        }
    }

    private static StackRuns machineOf(int n, int m, int[]... rules) {
        StackRuns x = new StackRuns();
        due("machine", x.machine(n, m), 0);
        for (int i = 0; i < rules.length; i++) {
            int[] r = rules[i];
            due("rule " + i, x.rule(r[0], r[1], r[2], r[3], r[4]), i);
        }
        return x;
    }

    /** The last sign told is on top. */
    private static void place(StackRuns x, int p, int... signs) {
        x.stand(p);
        for (int i = 0; i < signs.length; i++) {
            due("push", x.push(signs[i]), i + 1);
        }
    }

    private static void pile(StackRuns x, int p, int s, int height) {
        x.stand(p);
        for (int i = 1; i <= height; i++) {
            due("push", x.push(s), i);
        }
    }

    /** A set of the stand of p with an empty stack. */
    private static int emptyAt(StackRuns x, int p) {
        int set = x.set();
        due("last", x.last(set, 0, p, true), 0);
        return set;
    }

    private static int[] rule(int... r) {
        return r;
    }

    private static void promise1() {
        StackRuns x = new StackRuns();
        counts("new", x, 2, 2, 0, 0, 0, 0);
        due("at", x.at(-1), 0);
        due("no third control", x.stand(2), BAD);
        due("no third sign", x.push(2), BAD);
        due("second control", x.stand(1), 0);
        due("second sign", x.push(1), 1);
    }

    private static void promise2() {
        StackRuns x = new StackRuns();
        int[][] bad = {{0, 1}, {1, 0}, {6, 1}, {1, 6}, {-1, 3}, {3, -1}, {LEAST, 2}, {2, MOST}, {MOST, MOST}};
        x.rule(0, 0, 1, -1, -1);
        x.rule(0, 0, 1, 0, 1);
        x.stand(1);
        x.push(1);
        x.set();
        for (int[] b : bad) {
            due("bad machine", x.machine(b[0], b[1]), BAD);
        }
        counts("nothing changed", x, 2, 2, 2, 1, 1, 0);
        due("machine", x.machine(5, 4), 2);
        counts("as at first", x, 5, 4, 0, 0, 0, 0);
        due("control", x.at(-1), 0);
        due("machine", x.machine(1, 5), 0);
        counts("anew", x, 1, 5, 0, 0, 0, 0);
        due("a set goes", x.in(0), BAD);
        due("pop is told anew", x.pop(0, 0, 0), NONE);
        due("a rule again", x.rule(0, 4, 0, -1, -1), 0);
        due("pop", x.pop(0, 4, 0), 1);
        due("one went", x.machine(1, 5), 1);
        due("pop is gone", x.pop(0, 4, 0), NONE);
    }

    private static void promise3() {
        StackRuns x = machineOf(3, 2);
        int[][] bad = {{3, 0, 0, 0, 0}, {-1, 0, 0, 0, 0}, {0, 2, 0, 0, 0}, {0, -1, 0, 0, 0}, {0, 0, 3, 0, 0},
            {0, 0, -1, 0, 0}, {0, 0, 0, 2, 0}, {0, 0, 0, -2, -1}, {0, 0, 0, 0, 2}, {0, 0, 0, 0, -2},
            {0, 0, 0, -1, 0}, {0, 0, 0, -1, -2}, {0, 0, 0, -1, 1}, {LEAST, 0, 0, 0, 0}, {0, MOST, 0, 0, 0}};
        for (int[] b : bad) {
            due("bad rule", x.rule(b[0], b[1], b[2], b[3], b[4]), BAD);
        }
        due("none was told", x.count(2), 0);
        for (int i = 0; i < 30; i++) {
            int a = i % 3 - 1;
            due("rule", x.rule(i % 3, i % 2, 2, a, a < 0 ? -1 : i % 2), i);
        }
        due("full", x.rule(0, 0, 0, -1, -1), FULL);
        for (int[] b : bad) {
            due("bad comes first", x.rule(b[0], b[1], b[2], b[3], b[4]), BAD);
        }
        due("thirty", x.count(2), 30);
        StackRuns y = machineOf(2, 3, rule(0, 0, 1, -1, -1), rule(0, 1, 1, 2, -1), rule(0, 2, 1, 1, 0));
        place(y, 0, 2, 0);
        due("none", y.go(0), 1);
        due("below", y.at(0), 2);
        place(y, 0, 2, 1);
        due("one", y.go(1), 2);
        due("in its place", y.at(0), 2);
        place(y, 0, 1, 2);
        due("two", y.go(2), 3);
        due("top", y.at(0), 1);
        due("below it", y.at(1), 0);
        due("as it was", y.at(2), 1);
        due("control", y.at(-1), 1);
    }

    private static void promise4() {
        StackRuns x = new StackRuns();
        due("none", x.unrule(), NOT);
        x.rule(0, 0, 0, -1, -1);
        x.rule(0, 0, 0, 1, -1);
        due("one left", x.unrule(), 1);
        due("went", x.go(1), BAD);
        due("pop of what is left", x.pop(0, 0, 0), 1);
        due("none left", x.unrule(), 0);
        due("no pop", x.pop(0, 0, 0), NONE);
        due("none", x.unrule(), NOT);
        due("numbered from 0 again", x.rule(1, 1, 1, -1, -1), 0);
    }

    private static void promise5() {
        StackRuns x = machineOf(3, 1);
        x.push(0);
        x.push(0);
        due("bad", x.stand(3), BAD);
        due("bad", x.stand(-1), BAD);
        due("bad", x.stand(LEAST), BAD);
        due("still two", x.count(4), 2);
        due("two", x.stand(2), 2);
        due("control", x.at(-1), 2);
        due("empty", x.count(4), 0);
        due("none", x.stand(0), 0);
    }

    private static void promise6() {
        StackRuns x = machineOf(1, 3);
        for (int i = 0; i < 60; i++) {
            due("bad", x.push(3), BAD);
            due("bad", x.push(-1), BAD);
            due("push", x.push(i % 3), i + 1);
            due("on top", x.at(0), i % 3);
        }
        due("full", x.push(0), FULL);
        due("bad comes first", x.push(3), BAD);
        due("sixty", x.count(4), 60);
        due("lowest", x.at(59), 0);
    }

    private static void promise7() {
        StackRuns x = machineOf(2, 3);
        due("empty", x.at(0), BAD);
        place(x, 1, 2, 0, 1);
        due("control", x.at(-1), 1);
        due("top", x.at(0), 1);
        due("next", x.at(1), 0);
        due("lowest", x.at(2), 2);
        due("behind", x.at(3), BAD);
        due("before", x.at(-2), BAD);
        due("far off", x.at(MOST), BAD);
        due("far off", x.at(LEAST), BAD);
    }

    private static void promise8() {
        StackRuns x = machineOf(2, 2, rule(0, 0, 1, 1, 0), rule(1, 1, 0, -1, -1), rule(0, 0, 0, 1, -1));
        due("empty stack", x.go(0), NOT);
        due("bad", x.go(3), BAD);
        due("bad", x.go(-1), BAD);
        due("bad", x.go(LEAST), BAD);
        x.push(0);
        due("another control and sign", x.go(1), NOT);
        due("goes", x.go(0), 2);
        due("control", x.at(-1), 1);
        due("top", x.at(0), 1);
        due("another control", x.go(0), NOT);
        due("pops", x.go(1), 1);
        due("one for one", x.go(2), 1);
        due("another sign", x.go(0), NOT);
        pile(x, 0, 0, 60);
        due("full", x.go(0), FULL);
        due("as it was", x.at(0), 0);
        due("as it was", x.at(-1), 0);
        due("one for one has room", x.go(2), 60);
        due("not comes before full", x.go(0), NOT);
    }

    private static void promise9() {
        StackRuns x = new StackRuns();
        for (int i = 0; i < 6; i++) {
            due("set", x.set(), i);
        }
        due("full", x.set(), FULL);
        x.last(5, 0, 0, true);
        x.link(5, 0, 0, 0, 0);
        x.last(5, 1, 0, true);
        due("in", x.in(5), 1);
        due("far", x.far(5), 0);
        due("five left", x.unset(), 5);
        due("again", x.set(), 5);
        due("not in", x.in(5), 0);
        due("far is none", x.far(5), NONE);
        due("no last control", x.last(5, 0, 0, true), 0);
        due("no last node", x.last(5, 1, 0, true), 0);
        x.push(0);
        due("no links", x.in(5), 0);
        due("far is none", x.far(5), NONE);
        due("first link", x.link(5, 0, 0, 0, 0), 1);
        due("in", x.in(5), 1);
        due("far", x.far(5), 0);
    }

    private static void promise10() {
        StackRuns x = machineOf(3, 2);
        due("no set", x.link(0, 0, 0, 0, 0), BAD);
        x.set();
        int[][] bad = {{1, 0, 0, 0, 0}, {-1, 0, 0, 0, 0}, {0, 2, 0, 0, 0}, {0, -1, 0, 0, 0}, {0, 0, 3, 0, 0},
            {0, 0, -1, 0, 0}, {0, 1, 6, 0, 0}, {0, 1, -1, 0, 0}, {0, 0, 0, 2, 0}, {0, 0, 0, -1, 0},
            {0, 0, 0, 0, 6}, {0, 0, 0, 0, -1}, {MOST, 0, 0, 0, 0}, {0, LEAST, 0, 0, 0}, {0, 1, MOST, 0, 0}};
        for (int i = 0; i < 24; i++) {
            due("link", x.link(0, i % 2, i % 3, i / 2 % 2, i % 6), i + 1);
        }
        due("full", x.link(0, 0, 0, 0, 0), FULL);
        for (int[] b : bad) {
            due("bad comes first", x.link(b[0], b[1], b[2], b[3], b[4]), BAD);
        }
        x.set();
        due("a set of its own", x.link(1, 1, 5, 1, 5), 1);
        due("the same again", x.link(1, 1, 5, 1, 5), 2);
        due("from a control", x.link(1, 0, 2, 0, 5), 3);
        due("last", x.last(1, 1, 5, true), 0);
        place(x, 2, 1, 1, 0);
        due("in", x.in(1), 1);
        due("not in the other", x.in(0), 0);
    }

    private static void promise11() {
        StackRuns x = machineOf(3, 1);
        due("no set", x.last(0, 0, 0, true), BAD);
        x.set();
        int[][] bad = {{1, 0, 0}, {-1, 0, 0}, {0, 2, 0}, {0, -1, 0}, {0, 0, 3}, {0, 0, -1}, {0, 1, 6}, {0, 1, -1},
            {0, 0, MOST}, {0, 1, LEAST}, {LEAST, 0, 0}, {0, MOST, 0}};
        for (int[] b : bad) {
            due("bad", x.last(b[0], b[1], b[2], true), BAD);
            due("bad", x.last(b[0], b[1], b[2], false), BAD);
        }
        for (int way = 0; way < 2; way++) {
            for (int k = 0; k < (way == 0 ? 3 : 6); k++) {
                due("none at first", x.last(0, way, k, false), 0);
                due("not yet", x.last(0, way, k, true), 0);
                due("it is", x.last(0, way, k, true), 1);
                due("it was", x.last(0, way, k, false), 1);
                due("no more", x.last(0, way, k, true), 0);
            }
        }
        due("in", x.in(0), 1);
        due("far", x.far(0), 0);
        due("no more", x.last(0, 0, 0, false), 1);
        due("not in", x.in(0), 0);
        due("far", x.far(0), NONE);
    }

    private static void promise12() {
        StackRuns x = new StackRuns();
        due("none", x.unset(), NOT);
        x.set();
        x.set();
        due("one left", x.unset(), 1);
        due("the last went", x.in(1), BAD);
        due("the first stays", x.in(0), 0);
        due("none left", x.unset(), 0);
        due("none", x.unset(), NOT);
    }

    private static void promise13() {
        StackRuns x = machineOf(2, 2);
        due("no set", x.in(0), BAD);
        x.set();
        due("bad", x.in(1), BAD);
        due("bad", x.in(-1), BAD);
        due("bad", x.in(MOST), BAD);
        x.link(0, 0, 0, 1, 0);
        x.link(0, 1, 0, 0, 0);
        x.link(0, 1, 0, 0, 1);
        x.link(0, 1, 1, 1, 2);
        x.last(0, 1, 2, true);
        place(x, 0, 1, 0, 1);
        due("shortest", x.in(0), 1);
        place(x, 0, 1, 0, 0, 0, 1);
        due("round and round", x.in(0), 1);
        place(x, 0, 1, 1);
        due("none between", x.in(0), 0);
        place(x, 0, 0, 1);
        due("not at the end", x.in(0), 0);
        place(x, 0, 0, 1, 0, 1);
        due("beyond the end", x.in(0), 0);
        place(x, 1, 1, 0, 1);
        due("another control", x.in(0), 0);
        x.stand(0);
        due("empty", x.in(0), 0);
        x.last(0, 0, 1, true);
        due("another control is last", x.in(0), 0);
        x.last(0, 0, 0, true);
        due("its control is last", x.in(0), 1);
        x.push(0);
        due("a last control is for empty stacks", x.in(0), 0);
    }

    private static void promise14() {
        StackRuns x = machineOf(2, 2, rule(0, 0, 0, 0, 1), rule(0, 0, 1, -1, -1), rule(1, 1, 1, -1, -1));
        due("no set", x.far(0), BAD);
        due("bad", x.far(-1), BAD);
        int set = emptyAt(x, 1);
        due("no run from an empty stack", x.far(set), NONE);
        place(x, 0, 0);
        due("pop", x.far(set), 1);
        place(x, 0, 1, 1, 0);
        due("pop thrice", x.far(set), 3);
        place(x, 0, 1);
        due("stuck", x.far(set), NONE);
        int tall = x.set();
        x.link(tall, 0, 1, 1, 0);
        for (int i = 0; i < 5; i++) {
            x.link(tall, 1, i, 1, i + 1);
        }
        x.last(tall, 1, 5, true);
        place(x, 0, 0);
        due("six to push, one to pop", x.far(tall), 7);
        place(x, 0, 1, 1, 0);
        due("two are there", x.far(tall), 5);
        x.unrule();
        due("no way down", x.far(set), NONE);
        due("as before", x.far(tall), 5);
        x.link(tall, 0, 0, 0, 3);
        due("a link makes it nearer", x.far(tall), 0);
        pile(x, 1, 1, 60);
        due("none", x.far(set), NONE);
        x.rule(1, 1, 1, -1, -1);
        due("sixty", x.far(set), 60);
        due("down to six", x.far(tall), 54);
    }

    private static void promise15() {
        StackRuns x = machineOf(2, 2, rule(0, 0, 0, 1, -1), rule(0, 0, 0, 0, 0), rule(0, 0, 1, -1, -1),
            rule(0, 0, 1, -1, -1), rule(0, 1, 1, -1, -1), rule(1, 0, 1, -1, -1));
        due("no set", x.step(0), BAD);
        due("bad", x.step(-1), BAD);
        int set = emptyAt(x, 1);
        due("no run", x.step(set), NOT);
        place(x, 0, 0);
        due("the least of two alike, past longer ways", x.step(set), 2);
        due("it is in", x.step(set), NOT);
        due("in", x.in(set), 1);
        place(x, 0, 1, 1);
        due("no run", x.step(set), NOT);
        due("as it was", x.count(4), 2);
        int grown = x.set();
        x.link(grown, 0, 0, 0, 0);
        x.link(grown, 1, 0, 0, 0);
        x.link(grown, 1, 0, 1, 1);
        x.last(grown, 1, 1, true);
        due("the only rules of this head lead off", x.step(grown), NOT);
        StackRuns y = machineOf(1, 1, rule(0, 0, 0, 0, 0));
        int tall = y.set();
        y.link(tall, 0, 0, 0, 0);
        y.link(tall, 1, 0, 0, 1);
        y.link(tall, 1, 1, 0, 0);
        y.last(tall, 1, 0, true);
        pile(y, 0, 0, 60);
        due("one more", y.far(tall), 1);
        due("no room", y.step(tall), FULL);
        due("as it was", y.count(4), 60);
        due("bad comes first", y.step(1), BAD);
        pile(y, 0, 0, 58);
        due("room", y.step(tall), 0);
        due("not comes before full", y.step(tall), NOT);
    }

    private static void promise16() {
        StackRuns x = machineOf(1, 2, rule(0, 0, 0, 1, 1), rule(0, 1, 0, -1, -1));
        due("no set", x.run(0, 1), BAD);
        int set = emptyAt(x, 0);
        due("bad", x.run(set, -1), BAD);
        due("bad", x.run(set, 2001), BAD);
        due("bad", x.run(1, 0), BAD);
        due("in already", x.run(set, 0), 0);
        due("in already", x.run(set, 2000), 0);
        pile(x, 0, 0, 60);
        due("no room for the first", x.run(set, 2000), 0);
        due("none at all", x.run(set, 0), 0);
        pile(x, 0, 0, 59);
        due("far", x.far(set), 177);
        due("none", x.run(set, 0), 0);
        due("up to k", x.run(set, 3), 3);
        due("far", x.far(set), 174);
        due("to the end", x.run(set, 2000), 174);
        due("empty", x.count(4), 0);
        x.unrule();
        place(x, 0, 1);
        due("no run", x.run(set, 0), NOT);
        due("no run", x.run(set, 5), NOT);
        due("bad comes first", x.run(set, 2001), BAD);
        StackRuns y = machineOf(1, 2, rule(0, 0, 0, 0, 1), rule(0, 0, 0, 1, -1));
        int odd = y.set();
        y.link(odd, 0, 0, 1, 0);
        y.link(odd, 1, 0, 1, 1);
        y.link(odd, 1, 1, 1, 2);
        y.link(odd, 1, 2, 1, 3);
        y.link(odd, 1, 3, 0, 4);
        y.link(odd, 1, 4, 0, 4);
        y.last(odd, 1, 4, true);
        pile(y, 0, 0, 59);
        due("far", y.far(odd), 4);
        due("as long as there is room", y.run(odd, 2000), 1);
        due("full", y.step(odd), FULL);
        due("sixty", y.count(4), 60);
        due("no room", y.run(odd, 1), 0);
    }

    private static void promise17() {
        StackRuns x = machineOf(3, 2, rule(0, 0, 1, 0, 1), rule(1, 0, 2, -1, -1), rule(2, 1, 0, 1, -1),
            rule(0, 1, 2, -1, -1), rule(0, 0, 0, 0, -1));
        due("pop", x.pop(0, 0, 2), 4);
        due("pop", x.pop(1, 0, 2), 1);
        due("pop", x.pop(2, 1, 2), 2);
        due("none", x.pop(0, 0, 0), NONE);
        due("none", x.pop(1, 1, 1), NONE);
        int[][] bad = {{3, 0, 0}, {-1, 0, 0}, {0, 2, 0}, {0, -1, 0}, {0, 0, 3}, {0, 0, -1}, {LEAST, 0, 0},
            {0, MOST, 0}, {0, 0, MOST}};
        for (int[] b : bad) {
            due("bad", x.pop(b[0], b[1], b[2]), BAD);
        }
        x.rule(0, 0, 2, -1, -1);
        due("a shorter way", x.pop(0, 0, 2), 1);
        x.unrule();
        due("the longer way", x.pop(0, 0, 2), 4);
    }

    private static void promise18() {
        StackRuns x = machineOf(2, 3, rule(0, 0, 0, 1, 2), rule(0, 1, 1, -1, -1), rule(1, 2, 1, 2, -1));
        due("empty", x.endless(), 0);
        place(x, 0, 0);
        due("a circle below what is popped", x.endless(), 1);
        place(x, 0, 2, 1);
        due("a circle below on the stack", x.endless(), 1);
        place(x, 0, 2);
        due("another control", x.endless(), 0);
        place(x, 0, 2, 2);
        due("never uncovered", x.endless(), 0);
        place(x, 0, 1);
        due("pops and ends", x.endless(), 0);
        x.unrule();
        place(x, 0, 0);
        due("no circle", x.endless(), 0);
        x.rule(0, 1, 0, 0, -1);
        due("a circle that grows", x.endless(), 1);
    }

    private static void promise19() {
        StackRuns x = machineOf(2, 3, rule(0, 0, 0, 1, 2), rule(0, 1, 1, -1, -1), rule(1, 2, 1, 2, -1));
        due("empty", x.high(), 0);
        place(x, 0, 0);
        due("a circle that does not grow", x.high(), 2);
        place(x, 0, 0, 1, 2);
        due("no steps", x.high(), 3);
        x.rule(1, 2, 0, 1, 1);
        place(x, 0, 0);
        due("pushed again below", x.high(), 2);
        place(x, 0, 0, 0);
        due("with one below", x.high(), 3);
        x.rule(0, 1, 0, 0, -1);
        due("without bound", x.high(), NONE);
        x.unrule();
        due("bound again", x.high(), 3);
        StackRuns z = machineOf(1, 5, rule(0, 1, 0, 2, 0), rule(0, 2, 0, -1, -1), rule(0, 0, 0, 3, 3), rule(0, 3, 0, 4, 4));
        place(z, 0, 1);
        due("what was below grows highest", z.high(), 3);
        StackRuns y = machineOf(5, 5);
        for (int i = 0; i < 24; i++) {
            due("rule", y.rule(i / 5, i % 5, (i + 1) / 5, (i + 1) % 5, 0), i);
        }
        place(y, 0, 0);
        due("all heads, one after the other", y.high(), 25);
        pile(y, 0, 0, 60);
        due("beyond the room of the stand", y.high(), 84);
        due("no run for ever", y.endless(), 0);
        y.rule(4, 4, 0, 0, 0);
        due("a circle of all heads", y.high(), NONE);
        due("for ever", y.endless(), 1);
    }

    private static void promise20() {
        StackRuns x = machineOf(4, 3, rule(1, 2, 0, -1, -1), rule(1, 2, 0, 0, 0), rule(1, 1, 0, 0, 0));
        x.set();
        place(x, 1, 0, 2);
        counts("count", x, 4, 3, 3, 1, 2, 2);
        x.stand(1);
        due("none goes at an empty stack", x.count(5), 0);
        due("bad", x.count(6), BAD);
        due("bad", x.count(-1), BAD);
        due("bad", x.count(LEAST), BAD);
        due("bad", x.count(MOST), BAD);
        pile(x, 1, 1, 60);
        due("it goes, though there is no room", x.count(5), 1);
    }

    public static void main(String[] args) {
        promise1();
        promise2();
        promise3();
        promise4();
        promise5();
        promise6();
        promise7();
        promise8();
        promise9();
        promise10();
        promise11();
        promise12();
        promise13();
        promise14();
        promise15();
        promise16();
        promise17();
        promise18();
        promise19();
        promise20();
        System.out.println(wrong == 0 ? "all answers are as due" : wrong + " answers are not as due");
        if (wrong != 0) {
            System.exit(1);
        }
    }
}
