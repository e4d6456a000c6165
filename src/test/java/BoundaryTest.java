import java.io.IOException;
import java.lang.annotation.Retention;
import java.lang.annotation.RetentionPolicy;
import java.lang.reflect.InvocationTargetException;
import java.lang.reflect.Method;
import java.nio.file.Files;
import java.nio.file.Path;
import java.util.Arrays;
import java.util.Comparator;

/**
 * One test for each sentence of the document that names a boundary case. Each test bears the words of its sentence
 * and the section where they stand; that they stand there is looked at, too. That a refused call changes nothing is
 * RefusedTest's matter; the answers at 1000000000000000 steps are LimitTest's.
 */
public final class BoundaryTest {
    private static final int NONE = StackRuns.NONE, BAD = StackRuns.BAD, NOT = StackRuns.NOT, FULL = StackRuns.FULL;
    private static final int LEAST = Integer.MIN_VALUE, MOST = Integer.MAX_VALUE;
    private static final int MOST_CALLS = 512;
    private static final Path DOCUMENT = Path.of("../shared/DOC.md");
    private static int wrong = 0;
    private static String test = "";

    @Retention(RetentionPolicy.RUNTIME)
    @interface Says {
        String in();

        String words();
    }

    private static void due(String what, long got, long want) {
        if (got != want) {
            fail(what + " answered " + got + ", due is " + want);
        }
    }

    private static void fail(String what) {
        wrong++;
        System.out.println(test + ": " + what);
    }

    /** The class, with its calls counted: behind the 512th nothing is promised, so no test may look there. */
    private static final class Runs {
        private final StackRuns x = new StackRuns();
        private int calls = 0;

        private StackRuns once() {
            calls++;
            if (calls == MOST_CALLS + 1) {
                fail("the test itself makes more than 512 calls");
            }
            return x;
        }

        int machine(int n, int m) {
            return once().machine(n, m);
        }

        int rule(int p, int s, int q, int a, int b) {
            return once().rule(p, s, q, a, b);
        }

        int unrule() {
            return once().unrule();
        }

        int stand(int p) {
            return once().stand(p);
        }

        int push(int s) {
            return once().push(s);
        }

        int at(int i) {
            return once().at(i);
        }

        int go(int rule) {
            return once().go(rule);
        }

        int set() {
            return once().set();
        }

        int link(int set, int way, int from, int s, int to) {
            return once().link(set, way, from, s, to);
        }

        int last(int set, int way, int k, boolean is) {
            return once().last(set, way, k, is);
        }

        int unset() {
            return once().unset();
        }

        int in(int set) {
            return once().in(set);
        }

        long far(int set) {
            return once().far(set);
        }

        int step(int set) {
            return once().step(set);
        }

        int run(int set, int k) {
            return once().run(set, k);
        }

        long pop(int p, int s, int q) {
            return once().pop(p, s, q);
        }

        int endless() {
            return once().endless();
        }

        int high() {
            return once().high();
        }

        int count(int what) {
            return once().count(what);
        }
    }

    private static Runs machineOf(int n, int m, int[]... rules) {
        Runs x = new Runs();
        due("machine", x.machine(n, m), 0);
        for (int i = 0; i < rules.length; i++) {
            int[] r = rules[i];
            due("rule " + i, x.rule(r[0], r[1], r[2], r[3], r[4]), i);
        }
        return x;
    }

    private static int[] rule(int... r) {
        return r;
    }

    /** The stand of p with these signs, the top one first. */
    private static void place(Runs x, int p, int... topFirst) {
        x.stand(p);
        for (int i = topFirst.length - 1; i >= 0; i--) {
            due("push", x.push(topFirst[i]), topFirst.length - i);
        }
    }

    private static void pile(Runs x, int p, int s, int height) {
        int[] signs = new int[height];
        Arrays.fill(signs, s);
        place(x, p, signs);
    }

    /** Whether the stand is just this one. */
    private static void standIs(String what, Runs x, int p, int... topFirst) {
        due(what + ": control", x.at(-1), p);
        due(what + ": height", x.count(4), topFirst.length);
        for (int i = 0; i < topFirst.length; i++) {
            due(what + ": sign " + i, x.at(i), topFirst[i]);
        }
    }

    /** A set of the stand of p with an empty stack. */
    private static int emptyAt(Runs x, int p) {
        int set = x.set();
        due("last", x.last(set, 0, p, true), 0);
        return set;
    }

    /** A set of the stands of p with one sign or more, as many as need be for a remainder, all of them s. */
    private static int heightsOf(Runs x, int p, int s, int remainder, int divisor) {
        int set = x.set();
        x.link(set, 0, p, s, 1 % divisor);
        for (int node = 0; node < divisor; node++) {
            x.link(set, 1, node, s, (node + 1) % divisor);
        }
        x.last(set, 1, remainder, true);
        return set;
    }

    // ---- What it is

    @Says(in = "What it is", words = "An object is used for at most 512 calls after it has been made")
    static void whatItIs_the512thCallIsAnsweredAsTheFirst() {
        Runs x = machineOf(1, 1);
        int set = emptyAt(x, 0);
        x.push(0);
        while (x.calls < MOST_CALLS) {
            due("rule", x.rule(0, 0, 0, -1, -1), 0);
            due("far", x.far(set), 1);
            due("unrule", x.unrule(), 0);
            due("far", x.far(set), NONE);
        }
        due("all calls were made", x.calls, MOST_CALLS);
    }

    @Says(in = "What it is", words = "CONTROLS 0 .. n - 1")
    static void whatItIs_controlsEndBeforeN() {
        for (int n = 1; n <= 5; n++) {
            Runs x = machineOf(n, 2);
            x.set();
            for (int p = 0; p < n; p++) {
                checkControl(x, p, true);
            }
            for (int p : new int[] {-1, n, n + 1, 5, LEAST, MOST}) {
                checkControl(x, p, false);
            }
        }
    }

    private static void checkControl(Runs x, int p, boolean is) {
        String of = " of control " + p;
        due("stand" + of, x.stand(p), is ? 0 : BAD);
        due("rule from" + of, x.rule(p, 0, 0, -1, -1), is ? 0 : BAD);
        due("rule to" + of, x.rule(0, 0, p, -1, -1), is ? 1 : BAD);
        due("pop from" + of, x.pop(p, 1, 0) == BAD ? 1 : 0, is ? 0 : 1);
        due("pop to" + of, x.pop(0, 1, p) == BAD ? 1 : 0, is ? 0 : 1);
        due("link" + of, x.link(0, 0, p, 0, 0), is ? p + 1 : BAD);
        due("last" + of, x.last(0, 0, p, true), is ? 0 : BAD);
        if (is) {
            x.unrule();
            x.unrule();
        }
    }

    @Says(in = "What it is", words = "SIGNS 0 .. m - 1")
    static void whatItIs_signsEndBeforeM() {
        for (int m = 1; m <= 5; m++) {
            Runs x = machineOf(2, m);
            x.set();
            for (int s = 0; s < m; s++) {
                checkSign(x, s, true);
            }
            for (int s : new int[] {-1, m, m + 1, 5, LEAST, MOST}) {
                checkSign(x, s, false);
            }
        }
    }

    private static void checkSign(Runs x, int s, boolean is) {
        String of = " of sign " + s;
        due("push" + of, x.push(s), is ? 1 : BAD);
        x.stand(0);
        due("rule at" + of, x.rule(0, s, 0, -1, -1), is ? 0 : BAD);
        due("pop" + of, x.pop(1, s, 0) == BAD ? 1 : 0, is ? 0 : 1);
        due("link" + of, x.link(0, 0, 0, s, 0), is ? s + 1 : BAD);
        int told = x.count(2);
        if (s != -1) {
            due("rule with" + of, x.rule(0, 0, 0, s, -1), is ? 1 : BAD);
            due("rule below" + of, x.rule(0, 0, 0, 0, s), is ? 2 : BAD);
            told = is ? 3 : told;
        }
        for (int i = 0; i < told; i++) {
            x.unrule();
        }
    }

    // ---- Terms

    @Says(in = "What it is", words = "(n, m 1 ..")
    static void terms_nAndMAreOneAtLeast() {
        Runs x = new Runs();
        due("both one", x.machine(1, 1), 0);
        due("controls", x.count(0), 1);
        due("signs", x.count(1), 1);
        due("no control", x.machine(0, 1), BAD);
        due("no sign", x.machine(1, 0), BAD);
        due("below none", x.machine(-1, 1), BAD);
        due("below none", x.machine(1, -1), BAD);
        due("far below", x.machine(LEAST, 1), BAD);
        due("far below", x.machine(1, LEAST), BAD);
    }

    @Says(in = "Terms", words = "5; both 2 at first)")
    static void terms_nAndMAreFiveAtMost() {
        Runs x = new Runs();
        due("both five", x.machine(5, 5), 0);
        due("controls", x.count(0), 5);
        due("signs", x.count(1), 5);
        due("the fifth control", x.stand(4), 0);
        due("the fifth sign", x.push(4), 1);
        due("six controls", x.machine(6, 5), BAD);
        due("six signs", x.machine(5, 6), BAD);
        due("far above", x.machine(MOST, 5), BAD);
        due("far above", x.machine(5, MOST), BAD);
    }

    @Says(in = "Terms", words = "both 2 at first")
    static void terms_twoControlsAndTwoSignsAtFirst() {
        Runs x = new Runs();
        due("controls", x.count(0), 2);
        due("signs", x.count(1), 2);
        due("the second control", x.stand(1), 0);
        due("no third one", x.stand(2), BAD);
        due("the second sign", x.push(1), 1);
        due("no third one", x.push(2), BAD);
    }

    @Says(in = "Terms", words = "A STACK is a row of SIGNS, the top one first.")
    static void terms_theTopSignIsTheFirst() {
        Runs x = machineOf(1, 3);
        x.push(0);
        x.push(1);
        x.push(2);
        standIs("pushed last, so first", x, 0, 2, 1, 0);
    }

    @Says(in = "Terms", words = "RULES are numbered from 0 as they are told, 30 at most")
    static void terms_thirtyRulesAtMost() {
        Runs x = new Runs();
        for (int i = 0; i < 30; i++) {
            due("its number", x.rule(i % 2, 0, 0, -1, -1), i);
            due("how many", x.count(2), i + 1);
        }
        due("the 31st", x.rule(0, 0, 0, -1, -1), FULL);
        due("how many", x.count(2), 30);
        due("one goes", x.unrule(), 29);
        due("room for one", x.rule(0, 0, 0, -1, -1), 29);
        due("and no more", x.rule(0, 0, 0, -1, -1), FULL);
        x.push(0);
        due("the last one goes", x.go(29), 0);
        due("there is none behind it", x.go(30), BAD);
    }

    @Says(in = "Terms", words = "of a CONTROL p and a SIGN s, to a CONTROL q and 0, 1 or 2 SIGNS")
    static void terms_aRuleHasNoneOneOrTwoSigns() {
        Runs x = machineOf(2, 3, rule(0, 0, 1, -1, -1), rule(0, 0, 1, 1, -1), rule(0, 0, 1, 1, 2));
        for (int signs = 0; signs <= 2; signs++) {
            place(x, 0, 0);
            due("signs in place of one", x.go(signs), signs);
        }
    }

    @Says(in = "Terms", words = "A RULE GOES at a STAND with p and s on top")
    static void terms_aRuleGoesAtItsControlAndSignOnly() {
        for (int p = 0; p < 2; p++) {
            for (int s = 0; s < 2; s++) {
                Runs x = machineOf(2, 2, rule(1, 0, 1, 0, -1));
                place(x, p, s, 0);
                boolean goes = p == 1 && s == 0;
                due("goes at " + p + ", " + s, x.go(0), goes ? 2 : NOT);
                due("counted at " + p + ", " + s, x.count(5), goes ? 1 : 0);
            }
        }
        Runs x = machineOf(2, 2, rule(1, 0, 1, 0, -1));
        place(x, 1, 1, 0);
        due("the sign is there, but not on top", x.go(0), NOT);
    }

    @Says(in = "Terms",
        words = "s is taken off, its SIGNS come in place of it (the first one on top), q is the CONTROL.")
    static void terms_theFirstSignOfARuleComesOnTop() {
        Runs x = machineOf(3, 4, rule(0, 0, 1, -1, -1), rule(0, 0, 2, 1, -1), rule(0, 0, 1, 1, 2));
        place(x, 0, 0, 3);
        due("none", x.go(0), 1);
        standIs("none", x, 1, 3);
        place(x, 0, 0, 3);
        due("one", x.go(1), 2);
        standIs("one", x, 2, 1, 3);
        place(x, 0, 0, 3);
        due("two", x.go(2), 3);
        standIs("two", x, 1, 1, 2, 3);
    }

    @Says(in = "Terms", words = "At an empty STACK none GOES.")
    static void terms_noneGoesAtAnEmptyStack() {
        Runs x = machineOf(1, 1, rule(0, 0, 0, -1, -1), rule(0, 0, 0, 0, -1), rule(0, 0, 0, 0, 0));
        int one = heightsOf(x, 0, 0, 0, 1);
        for (int r = 0; r < 3; r++) {
            due("go", x.go(r), NOT);
        }
        due("none goes", x.count(5), 0);
        due("no run", x.far(one), NONE);
        due("no step", x.step(one), NOT);
        due("no run", x.run(one, 5), NOT);
        due("it ends", x.endless(), 0);
        due("nothing grows", x.high(), 0);
        x.push(0);
        due("all go", x.count(5), 3);
        due("endless", x.endless(), 1);
    }

    @Says(in = "Terms", words = "its STACK has 60 SIGNS at most")
    static void terms_sixtySignsAtMost() {
        Runs x = machineOf(1, 2, rule(0, 0, 0, 1, 0), rule(0, 0, 0, 1, -1), rule(0, 1, 0, -1, -1));
        pile(x, 0, 0, 59);
        due("the 60th by a rule", x.go(0), 60);
        due("down again", x.go(2), 59);
        due("the 60th by push", x.push(0), 60);
        due("the 61st by push", x.push(0), FULL);
        due("the 61st by a rule", x.go(0), FULL);
        due("sixty", x.count(4), 60);
        due("one for one has room", x.go(1), 60);
        due("none for one has room", x.go(2), 59);
    }

    @Says(in = "Terms", words = "at first CONTROL 0, an empty STACK.")
    static void terms_theStandAtFirst() {
        standIs("at first", new Runs(), 0);
        due("no sign", new Runs().at(0), BAD);
    }

    @Says(in = "Terms", words = "SETS of STANDS are numbered from 0, 6 at most")
    static void terms_sixSetsAtMost() {
        Runs x = new Runs();
        for (int i = 0; i < 6; i++) {
            due("its number", x.set(), i);
            due("how many", x.count(3), i + 1);
        }
        due("the seventh", x.set(), FULL);
        due("how many", x.count(3), 6);
        due("the last one is there", x.in(5), 0);
        due("there is none behind it", x.in(6), BAD);
        due("one goes", x.unset(), 5);
        due("room for one", x.set(), 5);
        due("and no more", x.set(), FULL);
    }

    @Says(in = "Terms", words = "NODES 0 .. 5")
    static void terms_nodesAreNoughtToFive() {
        Runs x = new Runs();
        x.set();
        int links = 0;
        for (int node = 0; node <= 5; node++) {
            due("to a node", x.link(0, 0, 0, 0, node), ++links);
            due("from a node", x.link(0, 1, node, 0, 0), ++links);
            due("last", x.last(0, 1, node, true), 0);
        }
        for (int node : new int[] {-1, 6, LEAST, MOST}) {
            due("to no node", x.link(0, 0, 0, 0, node), BAD);
            due("from no node", x.link(0, 1, node, 0, 0), BAD);
            due("last", x.last(0, 1, node, true), BAD);
            due("not last", x.last(0, 1, node, false), BAD);
        }
    }

    @Says(in = "Terms", words = "LINKS (24 at most)")
    static void terms_twentyFourLinksOfEachSetAtMost() {
        Runs x = new Runs();
        x.set();
        x.set();
        for (int set = 0; set < 2; set++) {
            for (int i = 0; i < 24; i++) {
                int to = i == 23 ? 5 : i % 5;
                due("how many links", x.link(set, i == 23 ? 0 : 1, i == 23 ? 1 : i / 5, i % 2, to), i + 1);
            }
            due("the 25th", x.link(set, 0, 0, 0, 0), FULL);
            due("the same again", x.link(set, 0, 1, 1, 5), FULL);
        }
        x.last(0, 1, 5, true);
        x.last(0, 1, 0, true);
        place(x, 1, 1);
        due("by the 24th", x.in(0), 1);
        place(x, 0, 0);
        due("by the 25th, which was refused", x.in(0), 0);
    }

    @Says(in = "Terms", words = "from a CONTROL or a NODE by a SIGN to a NODE")
    static void terms_aControlIsNotTheNodeOfItsNumber() {
        Runs x = machineOf(2, 2);
        int byNode = x.set();
        x.link(byNode, 1, 0, 0, 1);
        x.last(byNode, 1, 1, true);
        place(x, 0, 0);
        due("a node's link is not its control's", x.in(byNode), 0);
        int byControl = x.set();
        x.link(byControl, 0, 0, 0, 0);
        x.last(byControl, 1, 0, true);
        place(x, 0, 0);
        due("a control's link", x.in(byControl), 1);
        place(x, 0, 0, 0);
        due("is not its node's", x.in(byControl), 0);
        int lastControl = x.set();
        x.link(lastControl, 0, 0, 0, 0);
        x.last(lastControl, 0, 0, true);
        place(x, 0, 0);
        due("a last control is not a last node", x.in(lastControl), 0);
    }

    @Says(in = "Terms", words = "some CONTROLS and NODES are LAST (none at first)")
    static void terms_noneIsLastAtFirst() {
        Runs x = machineOf(5, 1);
        x.set();
        for (int k = 0; k < 5; k++) {
            x.stand(k);
            due("no control", x.in(0), 0);
            x.link(0, 0, k, 0, k);
            x.push(0);
            due("no node", x.in(0), 0);
            due("control", x.last(0, 0, k, false), 0);
            due("node", x.last(0, 1, k, false), 0);
        }
        due("the sixth node", x.last(0, 1, 5, false), 0);
    }

    @Says(in = "Terms", words = "LINKS by the SIGNS of its STACK, from the top on, one by one, lead to a LAST one")
    static void terms_linksLeadFromTheTopOnToALastOne() {
        Runs x = machineOf(1, 3);
        x.set();
        x.link(0, 0, 0, 0, 0);
        x.link(0, 1, 0, 1, 1);
        x.link(0, 1, 1, 2, 2);
        x.last(0, 1, 2, true);
        place(x, 0, 0, 1, 2);
        due("from the top on", x.in(0), 1);
        place(x, 0, 2, 1, 0);
        due("from below on", x.in(0), 0);
        place(x, 0, 0, 1);
        due("one sign too few", x.in(0), 0);
        place(x, 0, 0, 1, 2, 2);
        due("one sign too many", x.in(0), 0);
        x.last(0, 1, 2, false);
        place(x, 0, 0, 1, 2);
        due("no longer a last one", x.in(0), 0);
    }

    @Says(in = "Terms", words = "LINKS by the SIGNS of its STACK")
    static void terms_linksLeadThroughSixtySigns() {
        Runs x = machineOf(1, 2);
        int all = heightsOf(x, 0, 0, 0, 1);
        int even = heightsOf(x, 0, 0, 0, 2);
        int odd = heightsOf(x, 0, 0, 1, 2);
        pile(x, 0, 0, 60);
        due("all sixty", x.in(all), 1);
        due("an even number", x.in(even), 1);
        due("no odd one", x.in(odd), 0);
        place(x, 0, 1);
        for (int i = 0; i < 59; i++) {
            x.push(0);
        }
        due("the lowest one counts, too", x.in(all), 0);
    }

    @Says(in = "Terms", words = "(with an empty STACK: if its CONTROL is LAST)")
    static void terms_anEmptyStackIsInByItsControl() {
        Runs x = machineOf(2, 1);
        x.set();
        x.link(0, 0, 0, 0, 0);
        x.last(0, 1, 0, true);
        due("a last node is not enough", x.in(0), 0);
        x.last(0, 0, 1, true);
        due("nor another last control", x.in(0), 0);
        x.last(0, 0, 0, true);
        due("its control", x.in(0), 1);
        due("far", x.far(0), 0);
        x.last(0, 1, 0, false);
        x.push(0);
        due("with a sign its control is not enough", x.in(0), 0);
        due("far", x.far(0), NONE);
    }

    @Says(in = "Terms", words = "From one place several LINKS may go by one SIGN.")
    static void terms_severalLinksByOneSign() {
        Runs x = machineOf(1, 2, rule(0, 1, 0, 0, -1));
        x.set();
        for (int node = 0; node <= 5; node++) {
            x.link(0, 0, 0, 0, node);
        }
        for (int node = 0; node <= 5; node++) {
            x.last(0, 1, node, true);
            place(x, 0, 0);
            due("in by node " + node, x.in(0), 1);
            place(x, 0, 1);
            due("far by node " + node, x.far(0), 1);
            x.last(0, 1, node, false);
        }
        x.link(0, 1, 2, 1, 3);
        x.link(0, 1, 2, 1, 4);
        x.last(0, 1, 4, true);
        place(x, 0, 0, 1);
        due("from a node, too", x.in(0), 1);
        due("from a node, too", x.far(0), 0);
    }

    @Says(in = "Terms", words = "FAR of a SET is the least number of STEPS of a RUN from THE STAND to a STAND IN it")
    static void terms_farIsTheLeastNumberOfSteps() {
        Runs x = machineOf(1, 3, rule(0, 0, 0, 1, -1), rule(0, 1, 0, 2, -1), rule(0, 2, 0, -1, -1));
        int set = emptyAt(x, 0);
        due("no steps", x.far(set), 0);
        x.push(0);
        due("three", x.far(set), 3);
        x.rule(0, 0, 0, 2, -1);
        due("two", x.far(set), 2);
        x.rule(0, 0, 0, 0, 0);
        due("not by a longer one", x.far(set), 2);
        x.rule(0, 0, 0, -1, -1);
        due("one", x.far(set), 1);
    }

    @Says(in = "Terms", words = "(whatever STACKS it goes through, of any height)")
    static void terms_farGoesThroughStacksOfMoreThanSixtySigns() {
        Runs x = machineOf(2, 5);
        for (int s = 0; s < 4; s++) {
            x.rule(0, s, 0, s + 1, s);
        }
        x.rule(0, 4, 1, -1, -1);
        for (int s = 0; s < 4; s++) {
            x.rule(1, s, 1, -1, -1);
        }
        int set = emptyAt(x, 1);
        pile(x, 0, 0, 60);
        due("up to 64 signs, and down", x.far(set), 68);
        due("no room for it", x.step(set), FULL);
        due("no room for it", x.run(set, 2000), 0);
        pile(x, 0, 0, 56);
        due("up to 60 signs, and down", x.far(set), 64);
        due("there is room for it", x.run(set, 2000), 64);
    }

    @Says(in = "Terms", words = "to a STAND IN it (whatever STACKS it goes through, of any height)")
    static void terms_farEndsAtStacksOfMoreThanSixtySigns() {
        Runs x = machineOf(1, 1, rule(0, 0, 0, 0, 0));
        int five = heightsOf(x, 0, 0, 5, 6);
        pile(x, 0, 0, 60);
        due("at 65 signs", x.far(five), 5);
        due("no room", x.step(five), FULL);
        due("no room", x.run(five, 9), 0);
    }

    @Says(in = "Terms",
        words = "the least number of STEPS of a RUN from the STAND of p with s alone to that of q with an empty STACK")
    static void terms_popIsTheLeastNumberOfSteps() {
        Runs x = machineOf(2, 2, rule(0, 0, 0, 1, 1), rule(0, 1, 1, -1, -1), rule(1, 1, 0, -1, -1));
        due("three", x.pop(0, 0, 0), 3);
        due("to another control", x.pop(0, 0, 1), NONE);
        due("one", x.pop(0, 1, 1), 1);
        x.rule(0, 0, 0, 1, -1);
        due("another control, two", x.pop(0, 0, 1), 2);
        due("as before", x.pop(0, 0, 0), 3);
        x.rule(0, 0, 0, -1, -1);
        due("one", x.pop(0, 0, 0), 1);
    }

    @Says(in = "Terms", words = "from the STAND of p with s alone to that of q with an empty STACK")
    static void terms_popAsksNotForTheStandAtHand() {
        Runs x = machineOf(2, 1, rule(1, 0, 0, -1, -1));
        due("whatever is at hand", x.pop(1, 0, 0), 1);
        pile(x, 0, 0, 60);
        due("whatever is at hand", x.pop(1, 0, 0), 1);
        due("no steps are no pop", x.pop(0, 0, 0), NONE);
        standIs("nothing was popped", x, 0, new int[60]);
    }

    @Says(in = "Terms", words = "(the same with anything below s)")
    static void terms_popIsTheSameWithAnythingBelow() {
        Runs x = machineOf(2, 2, rule(0, 0, 0, 1, 1), rule(0, 1, 1, 1, -1), rule(1, 1, 0, -1, -1));
        long pop = x.pop(0, 0, 0);
        due("pop", pop, 5);
        int below = x.set();
        x.link(below, 0, 0, 1, 0);
        x.link(below, 1, 0, 0, 1);
        x.link(below, 1, 1, 0, 1);
        x.last(below, 1, 1, true);
        pile(x, 0, 0, 57);
        x.push(1);
        x.push(0);
        due("far with 58 below", x.far(below), pop);
        due("run", x.run(below, 2000), pop);
        due("what was below", x.count(4), 58);
        due("what was below", x.at(0), 1);
    }

    @Says(in = "Terms", words = "ENDLESS: from THE STAND there is a RUN of any number of STEPS.")
    static void terms_endlessIsARunOfAnyNumberOfSteps() {
        Runs x = machineOf(1, 5);
        for (int s = 0; s < 4; s++) {
            x.rule(0, s, 0, s + 1, s + 1);
        }
        x.rule(0, 4, 0, -1, -1);
        pile(x, 0, 0, 60);
        due("1860 steps and no more", x.endless(), 0);
        x.rule(0, 4, 0, 4, -1);
        due("a rule that changes nothing", x.endless(), 1);
        x.unrule();
        x.rule(0, 4, 0, 3, 3);
        due("a circle", x.endless(), 1);
        x.unrule();
        x.rule(0, 3, 0, 3, 3);
        due("higher and higher", x.endless(), 1);
    }

    @Says(in = "Terms", words = "from THE STAND there is a RUN of any number of STEPS")
    static void terms_endlessIsAskedFromTheStand() {
        Runs x = machineOf(2, 2, rule(0, 0, 1, -1, -1), rule(1, 1, 1, 1, -1), rule(0, 1, 0, -1, -1));
        place(x, 1, 1);
        due("at once", x.endless(), 1);
        pile(x, 1, 0, 1);
        due("stuck", x.endless(), 0);
        place(x, 0, 1, 1);
        due("it ends", x.endless(), 0);
        place(x, 0, 0, 1);
        due("below", x.endless(), 1);
        place(x, 0, 0, 1);
        for (int i = 0; i < 58; i++) {
            x.push(1);
        }
        due("the lowest of sixty", x.endless(), 1);
    }

    @Says(in = "Terms", words = "the STACK of a STAND has to which a RUN leads from THE STAND (of no STEPS, too)")
    static void terms_highOfNoSteps() {
        Runs x = machineOf(1, 2, rule(0, 0, 0, -1, -1));
        due("an empty stack", x.high(), 0);
        pile(x, 0, 1, 60);
        due("no rule goes", x.high(), 60);
        pile(x, 0, 0, 60);
        due("only down", x.high(), 60);
    }

    @Says(in = "Terms", words = "HIGH: the greatest number of SIGNS")
    static void terms_highIsNotBoundToSixty() {
        Runs x = machineOf(1, 5);
        for (int s = 0; s < 4; s++) {
            x.rule(0, s, 0, s + 1, s);
        }
        pile(x, 0, 0, 60);
        due("four more", x.high(), 64);
        pile(x, 0, 0, 1);
        due("four more", x.high(), 5);
        place(x, 0, 4, 0);
        due("what is below is not reached", x.high(), 2);
        x.rule(0, 4, 0, -1, -1);
        due("it is reached", x.high(), 5);
    }

    @Says(in = "Terms", words = "none, if there is no greatest")
    static void terms_highIsNoneWithoutAGreatest() {
        Runs x = machineOf(1, 3, rule(0, 0, 0, 0, 0), rule(0, 1, 0, -1, -1), rule(0, 2, 0, 2, -1));
        place(x, 0, 0);
        due("higher and higher", x.high(), NONE);
        place(x, 0, 1, 0);
        due("behind a pop", x.high(), NONE);
        place(x, 0, 2, 0);
        due("never uncovered, though endless", x.high(), 2);
        due("endless", x.endless(), 1);
        place(x, 0, 1, 1);
        due("it is not there", x.high(), 2);
    }

    @Says(in = "Terms", words = "the first that fits: BAD")
    static void terms_badComesBeforeNot() {
        Runs x = machineOf(1, 1, rule(0, 0, 0, -1, -1));
        due("no such rule, and none goes", x.go(1), BAD);
        due("no such rule, and none goes", x.go(-1), BAD);
        int set = x.set();
        due("no such set, and no run", x.step(set + 1), BAD);
        due("k too large, and no run", x.run(set, 2001), BAD);
        due("k too small, and no run", x.run(set, -1), BAD);
        due("no run", x.run(set, 2000), NOT);
        x.last(set, 0, 0, true);
        due("no such set, and in the other", x.step(set + 1), BAD);
        due("in already", x.step(set), NOT);
    }

    @Says(in = "Terms", words = "the first that fits: BAD")
    static void terms_badComesBeforeFull() {
        Runs x = machineOf(1, 1);
        x.set();
        for (int i = 0; i < 30; i++) {
            x.rule(0, 0, 0, 0, 0);
        }
        for (int i = 0; i < 24; i++) {
            x.link(0, 0, 0, 0, 0);
        }
        pile(x, 0, 0, 60);
        due("rule", x.rule(0, 0, 0, -1, 0), BAD);
        due("rule", x.rule(1, 0, 0, 0, 0), BAD);
        due("rule is full", x.rule(0, 0, 0, 0, 0), FULL);
        due("push", x.push(1), BAD);
        due("push", x.push(-1), BAD);
        due("push is full", x.push(0), FULL);
        due("link", x.link(0, 0, 0, 0, 6), BAD);
        due("link", x.link(0, 2, 0, 0, 0), BAD);
        due("link is full", x.link(0, 0, 0, 0, 0), FULL);
        due("go", x.go(30), BAD);
        due("go is full", x.go(29), FULL);
        due("step", x.step(1), BAD);
    }

    @Says(in = "Terms", words = "NOT (a RULE that does not GO; no RUN; it is IN the SET already;")
    static void terms_notComesBeforeFull() {
        Runs x = machineOf(2, 2, rule(0, 0, 0, 0, 0), rule(1, 0, 0, 0, 0), rule(0, 1, 0, 0, 0));
        int all = heightsOf(x, 0, 0, 0, 1);
        int none = x.set();
        int more = heightsOf(x, 0, 0, 1, 6);
        pile(x, 0, 0, 60);
        due("another control", x.go(1), NOT);
        due("another sign", x.go(2), NOT);
        due("it goes", x.go(0), FULL);
        due("in already", x.step(all), NOT);
        due("no run", x.step(none), NOT);
        due("one more", x.step(more), FULL);
    }

    @Says(in = "Terms", words = "BAD (no such CONTROL, SIGN, RULE, SET, NODE, or a number out of its bounds)")
    static void terms_badOfARuleThatIsNotThere() {
        Runs x = machineOf(1, 1, rule(0, 0, 0, 0, -1), rule(0, 0, 0, 0, -1));
        x.push(0);
        due("the second", x.go(1), 1);
        due("no third", x.go(2), BAD);
        due("far above", x.go(30), BAD);
        due("far above", x.go(MOST), BAD);
        due("below", x.go(-1), BAD);
        due("far below", x.go(LEAST), BAD);
        x.unrule();
        due("the second went", x.go(1), BAD);
        x.machine(1, 1);
        x.push(0);
        due("the first went", x.go(0), BAD);
    }

    @Says(in = "Terms", words = "no such CONTROL, SIGN, RULE, SET, NODE")
    static void terms_badOfASetThatIsNotThere() {
        Runs x = new Runs();
        checkNoSet(x, 0);
        due("set", x.set(), 0);
        for (int set : new int[] {-1, 1, 5, 6, LEAST, MOST}) {
            checkNoSet(x, set);
        }
        x.unset();
        checkNoSet(x, 0);
        x.set();
        x.set();
        x.unset();
        checkNoSet(x, 1);
        x.machine(2, 2);
        checkNoSet(x, 0);
    }

    private static void checkNoSet(Runs x, int set) {
        due("link", x.link(set, 0, 0, 0, 0), BAD);
        due("last", x.last(set, 0, 0, true), BAD);
        due("in", x.in(set), BAD);
        due("far", x.far(set), BAD);
        due("step", x.step(set), BAD);
        due("run", x.run(set, 0), BAD);
    }

    @Says(in = "Terms", words = "or a number out of its bounds")
    static void terms_badOfAWayThatIsNeither() {
        Runs x = new Runs();
        x.set();
        for (int way : new int[] {-1, 2, LEAST, MOST}) {
            due("link", x.link(0, way, 0, 0, 0), BAD);
            due("last", x.last(0, way, 0, true), BAD);
            due("not last", x.last(0, way, 0, false), BAD);
        }
    }

    // ---- Promises 1 to 8

    @Says(in = "Promise 1: A new object", words = "Two CONTROLS, two SIGNS, no RULES, no SETS.")
    static void promise01_aNewObject() {
        Runs x = new Runs();
        int[] first = {2, 2, 0, 0, 0, 0};
        for (int what = 0; what < 6; what++) {
            due("count " + what, x.count(what), first[what]);
        }
        due("no rule", x.go(0), BAD);
        due("no rule", x.unrule(), NOT);
        due("no set", x.in(0), BAD);
        due("no set", x.unset(), NOT);
        due("the first rule", x.rule(0, 0, 0, -1, -1), 0);
        due("the first set", x.set(), 0);
    }

    @Says(in = "Promise 1: A new object", words = "no RULES, no SETS.")
    static void promise01_objectsShareNothing() {
        Runs x = new Runs();
        x.rule(0, 0, 0, -1, -1);
        x.push(0);
        x.set();
        Runs y = new Runs();
        due("rules", y.count(2), 0);
        due("sets", y.count(3), 0);
        due("signs", y.count(4), 0);
        due("pop", y.pop(0, 0, 0), NONE);
        due("pop of the other", x.pop(0, 0, 0), 1);
    }

    @Says(in = "Promise 2: machine", words = "n CONTROLS, m SIGNS; all else is as at first: how many RULES went.")
    static void promise02_allElseIsAsAtFirst() {
        Runs x = machineOf(3, 3, rule(0, 0, 0, -1, -1), rule(0, 0, 1, 0, 0), rule(2, 2, 2, 2, -1));
        int set = emptyAt(x, 0);
        x.link(set, 0, 0, 0, 0);
        x.last(set, 1, 0, true);
        place(x, 2, 0, 1);
        due("pop", x.pop(0, 0, 0), 1);
        due("three went", x.machine(3, 3), 3);
        int[] first = {3, 3, 0, 0, 0, 0};
        for (int what = 0; what < 6; what++) {
            due("count " + what, x.count(what), first[what]);
        }
        standIs("as at first", x, 0);
        due("no rule", x.go(0), BAD);
        due("no pop", x.pop(0, 0, 0), NONE);
        due("no set", x.in(0), BAD);
        due("a set again", x.set(), 0);
        due("not last", x.in(0), 0);
        due("no control is last", x.last(0, 0, 0, false), 0);
        due("no node is last", x.last(0, 1, 0, true), 0);
        x.push(0);
        due("no link", x.in(0), 0);
        due("the first link", x.link(0, 1, 1, 1, 1), 1);
        due("not endless", x.endless(), 0);
        due("high", x.high(), 1);
        due("none to go", x.machine(3, 3), 0);
    }

    @Says(in = "Promise 2: machine", words = "how many RULES went.")
    static void promise02_thirtyRulesWent() {
        Runs x = new Runs();
        for (int i = 0; i < 30; i++) {
            x.rule(0, 0, 0, -1, -1);
        }
        due("thirty", x.machine(1, 1), 30);
        due("none", x.machine(1, 1), 0);
        for (int i = 0; i < 30; i++) {
            due("room for thirty", x.rule(0, 0, 0, -1, -1), i);
        }
    }

    @Says(in = "Promise 2: machine", words = "BAD.")
    static void promise02_bad() {
        Runs x = new Runs();
        x.rule(1, 1, 1, 1, 1);
        for (int bad : new int[] {0, 6, -1, LEAST, MOST}) {
            due("n", x.machine(bad, 3), BAD);
            due("m", x.machine(3, bad), BAD);
            due("both", x.machine(bad, bad), BAD);
        }
        due("rules", x.count(2), 1);
        due("controls", x.count(0), 2);
        due("signs", x.count(1), 2);
    }

    @Says(in = "Promise 3: rule",
        words = "A RULE: with none (a -1), one (a; b -1) or two SIGNS (a on top, b): its number.")
    static void promise03_signsOfARule() {
        Runs x = new Runs();
        due("none", x.rule(0, 0, 1, -1, -1), 0);
        due("one", x.rule(0, 0, 1, 1, -1), 1);
        due("two", x.rule(0, 0, 1, 1, 0), 2);
        place(x, 0, 0);
        x.go(0);
        standIs("none", x, 1);
        place(x, 0, 0);
        x.go(1);
        standIs("one", x, 1, 1);
        place(x, 0, 0);
        x.go(2);
        standIs("two", x, 1, 1, 0);
    }

    @Says(in = "Promise 3: rule", words = "its number.")
    static void promise03_theSameRuleTwiceIsTwo() {
        Runs x = new Runs();
        due("first", x.rule(0, 0, 0, -1, -1), 0);
        due("again", x.rule(0, 0, 0, -1, -1), 1);
        x.push(0);
        due("both go", x.count(5), 2);
    }

    @Says(in = "Promise 3: rule", words = "BAD: also a -1, and b not;")
    static void promise03_badOfASecondSignWithoutAFirst() {
        Runs x = new Runs();
        for (int b : new int[] {0, 1, 2, -2, LEAST, MOST}) {
            due("a -1, b " + b, x.rule(0, 0, 0, -1, b), BAD);
        }
        due("both -1", x.rule(0, 0, 0, -1, -1), 0);
    }

    @Says(in = "Promise 3: rule", words = "BAD: also")
    static void promise03_badOfEachArgument() {
        Runs x = machineOf(3, 2);
        for (int bad : new int[] {-2, 3, LEAST, MOST}) {
            due("p", x.rule(bad, 0, 0, 0, 0), BAD);
            due("s", x.rule(0, bad, 0, 0, 0), BAD);
            due("q", x.rule(0, 0, bad, 0, 0), BAD);
            due("a", x.rule(0, 0, 0, bad, 0), BAD);
            due("a alone", x.rule(0, 0, 0, bad, -1), BAD);
            due("b", x.rule(0, 0, 0, 0, bad), BAD);
        }
        due("p -1", x.rule(-1, 0, 0, 0, 0), BAD);
        due("s -1", x.rule(0, -1, 0, 0, 0), BAD);
        due("q -1", x.rule(0, 0, -1, 0, 0), BAD);
        due("a sign that is a control only", x.rule(0, 2, 0, 0, 0), BAD);
        due("none was told", x.count(2), 0);
        due("the first", x.rule(2, 1, 2, 1, 1), 0);
    }

    @Says(in = "Promise 3: rule", words = "FULL.")
    static void promise03_full() {
        Runs x = new Runs();
        for (int i = 0; i < 30; i++) {
            x.rule(0, 0, 0, 0, -1);
        }
        due("full", x.rule(0, 0, 0, -1, -1), FULL);
        due("the refused one does not pop", x.pop(0, 0, 0), NONE);
        due("thirty", x.count(2), 30);
        due("one goes", x.unrule(), 29);
    }

    @Says(in = "Promise 4: unrule", words = "The RULE that was told last goes: how many are left.")
    static void promise04_theLastRuleGoes() {
        Runs x = new Runs();
        for (int i = 0; i < 30; i++) {
            x.rule(0, 0, 0, i == 0 ? -1 : 0, -1);
        }
        for (int left = 29; left >= 1; left--) {
            due("left", x.unrule(), left);
        }
        due("the first is still there", x.pop(0, 0, 0), 1);
        due("none left", x.unrule(), 0);
        due("it went", x.pop(0, 0, 0), NONE);
    }

    @Says(in = "Promise 4: unrule", words = "The RULE that was told last goes")
    static void promise04_anotherRuleComesInItsPlace() {
        Runs x = machineOf(2, 2, rule(0, 0, 0, -1, -1), rule(0, 1, 0, 1, 1));
        int empty = emptyAt(x, 0);
        place(x, 0, 1);
        due("far", x.far(empty), NONE);
        due("pop", x.pop(0, 1, 0), NONE);
        due("endless", x.endless(), 1);
        due("high", x.high(), NONE);
        x.unrule();
        due("the number again", x.rule(0, 1, 0, 0, 0), 1);
        due("far", x.far(empty), 3);
        due("pop", x.pop(0, 1, 0), 3);
        due("endless", x.endless(), 0);
        due("high", x.high(), 2);
    }

    @Says(in = "Promise 4: unrule", words = "NOT: there is none.")
    static void promise04_notWithoutARule() {
        Runs x = new Runs();
        due("at first", x.unrule(), NOT);
        x.rule(0, 0, 0, -1, -1);
        due("one", x.unrule(), 0);
        due("none", x.unrule(), NOT);
        due("no less than none", x.count(2), 0);
        due("the first again", x.rule(0, 0, 0, -1, -1), 0);
        x.machine(2, 2);
        due("all went", x.unrule(), NOT);
    }

    @Says(in = "Promise 5: stand", words = "THE STAND has CONTROL p, and an empty STACK: how many SIGNS it had.")
    static void promise05_howManySignsItHad() {
        Runs x = machineOf(5, 1);
        due("none", x.stand(4), 0);
        standIs("empty", x, 4);
        pile(x, 3, 0, 60);
        due("sixty", x.stand(0), 60);
        standIs("empty", x, 0);
        due("the first sign again", x.push(0), 1);
        due("one, at the same control", x.stand(0), 1);
        standIs("empty", x, 0);
    }

    @Says(in = "Promise 5: stand", words = "BAD.")
    static void promise05_bad() {
        Runs x = machineOf(3, 1);
        place(x, 2, 0, 0);
        for (int p : new int[] {-1, 3, 5, LEAST, MOST}) {
            due("control " + p, x.stand(p), BAD);
        }
        standIs("as it was", x, 2, 0, 0);
    }

    @Says(in = "Promise 6: push", words = "A SIGN comes on top of THE STAND's STACK: how many it has.")
    static void promise06_howManyItHas() {
        Runs x = machineOf(2, 5);
        x.stand(1);
        for (int i = 0; i < 60; i++) {
            due("push", x.push(i % 5), i + 1);
            due("on top", x.at(0), i % 5);
        }
        due("the lowest", x.at(59), 0);
        due("control", x.at(-1), 1);
    }

    @Says(in = "Promise 6: push", words = "BAD;")
    static void promise06_bad() {
        Runs x = machineOf(5, 3);
        x.push(2);
        for (int s : new int[] {-1, 3, 4, 5, LEAST, MOST}) {
            due("sign " + s, x.push(s), BAD);
        }
        standIs("as it was", x, 0, 2);
    }

    @Says(in = "Promise 6: push", words = "FULL.")
    static void promise06_full() {
        Runs x = machineOf(1, 2);
        pile(x, 0, 0, 60);
        due("full", x.push(1), FULL);
        due("sixty", x.count(4), 60);
        due("top", x.at(0), 0);
        due("lowest", x.at(59), 0);
        due("none behind it", x.at(60), BAD);
    }

    @Says(in = "Promise 7: at", words = "CONTROL of THE STAND (i -1);")
    static void promise07_controlAtMinusOne() {
        Runs x = machineOf(5, 1);
        for (int p = 0; p < 5; p++) {
            x.stand(p);
            due("with an empty stack", x.at(-1), p);
            x.push(0);
            due("with a sign", x.at(-1), p);
        }
    }

    @Says(in = "Promise 7: at", words = "the i-th SIGN of its STACK, from the top (0) on.")
    static void promise07_signsFromTheTopOn() {
        Runs x = machineOf(1, 5);
        for (int i = 0; i < 60; i++) {
            x.push(i * 7 % 5);
        }
        for (int i = 0; i < 60; i++) {
            due("at " + i, x.at(i), (59 - i) * 7 % 5);
        }
    }

    @Says(in = "Promise 7: at", words = "BAD.")
    static void promise07_bad() {
        Runs x = machineOf(1, 1);
        due("no sign", x.at(0), BAD);
        due("below -1", x.at(-2), BAD);
        for (int height = 1; height <= 60; height++) {
            x.push(0);
            due("the lowest", x.at(height - 1), 0);
            due("behind it", x.at(height), BAD);
        }
        due("far above", x.at(MOST), BAD);
        due("far below", x.at(LEAST), BAD);
        x.stand(0);
        due("what was there went", x.at(0), BAD);
    }

    @Says(in = "Promise 8: go", words = "A RULE GOES at THE STAND: how many SIGNS it has then.")
    static void promise08_howManySignsItHasThen() {
        Runs x = machineOf(1, 1, rule(0, 0, 0, -1, -1), rule(0, 0, 0, 0, -1), rule(0, 0, 0, 0, 0));
        x.push(0);
        for (int height = 2; height <= 60; height++) {
            due("one more", x.go(2), height);
        }
        due("as many", x.go(1), 60);
        for (int height = 59; height >= 0; height--) {
            due("one less", x.go(0), height);
        }
    }

    @Says(in = "Promise 8: go", words = "BAD;")
    static void promise08_bad() {
        Runs x = machineOf(1, 1, rule(0, 0, 0, -1, -1));
        x.push(0);
        for (int r : new int[] {-1, 1, 29, 30, LEAST, MOST}) {
            due("rule " + r, x.go(r), BAD);
        }
        standIs("as it was", x, 0, 0);
    }

    @Says(in = "Promise 8: go", words = "NOT;")
    static void promise08_not() {
        Runs x = machineOf(2, 2, rule(0, 0, 1, -1, -1));
        due("an empty stack", x.go(0), NOT);
        place(x, 1, 0);
        due("another control", x.go(0), NOT);
        standIs("as it was", x, 1, 0);
        place(x, 0, 1, 0);
        due("another sign on top", x.go(0), NOT);
        standIs("as it was", x, 0, 1, 0);
    }

    @Says(in = "Promise 8: go", words = "FULL.")
    static void promise08_full() {
        Runs x = machineOf(2, 2, rule(0, 0, 1, 1, 1));
        pile(x, 0, 0, 60);
        due("full", x.go(0), FULL);
        standIs("as it was", x, 0, new int[60]);
        pile(x, 0, 0, 59);
        due("room", x.go(0), 60);
    }

    // ---- Promises 9 to 13

    @Says(in = "Promise 9: set", words = "A SET, its NET without LINKS: its number.")
    static void promise09_aNewSetHasNoLinksAndNoLastOnes() {
        Runs x = machineOf(2, 1, rule(0, 0, 1, 0, -1), rule(0, 0, 1, -1, -1));
        for (int i = 0; i < 6; i++) {
            int set = x.set();
            due("number", set, i);
            x.last(set, 0, 1, true);
            x.link(set, 0, 1, 0, 0);
            x.last(set, 1, 0, true);
        }
        place(x, 0, 0);
        due("far", x.far(5), 1);
        x.unset();
        due("again", x.set(), 5);
        due("far of none", x.far(5), NONE);
        place(x, 1, 0);
        due("not in", x.in(5), 0);
        due("the others stay", x.in(4), 1);
        due("node is not last", x.last(5, 1, 0, true), 0);
        due("without the link", x.in(5), 0);
        due("without the link", x.far(5), NONE);
        x.stand(1);
        due("control is not last", x.in(5), 0);
        due("the first link", x.link(5, 0, 1, 0, 0), 1);
    }

    @Says(in = "Promise 9: set", words = "FULL.")
    static void promise09_full() {
        Runs x = new Runs();
        for (int i = 0; i < 6; i++) {
            x.last(x.set(), 0, 0, true);
        }
        due("full", x.set(), FULL);
        due("six", x.count(3), 6);
        for (int i = 0; i < 6; i++) {
            due("as it was", x.in(i), 1);
        }
        due("no seventh", x.in(6), BAD);
    }

    @Says(in = "Promise 10: link",
        words = "A LINK of a SET, from a CONTROL (way 0) or a NODE (1), by a SIGN, to a NODE: how many LINKS.")
    static void promise10_howManyLinks() {
        Runs x = machineOf(5, 5);
        x.set();
        x.set();
        due("from the last control", x.link(0, 0, 4, 4, 5), 1);
        due("from the last node", x.link(0, 1, 5, 4, 0), 2);
        due("of the other set", x.link(1, 1, 5, 4, 0), 1);
        due("from the first control", x.link(0, 0, 0, 0, 0), 3);
        due("from the first node", x.link(0, 1, 0, 0, 0), 4);
        x.last(0, 1, 0, true);
        place(x, 4, 4, 4, 0, 0);
        due("by all of them", x.in(0), 1);
        due("not by the other set's", x.in(1), 0);
    }

    @Says(in = "Promise 10: link", words = "BAD;")
    static void promise10_badOfEachArgument() {
        Runs x = machineOf(3, 2);
        x.set();
        for (int bad : new int[] {-1, 6, LEAST, MOST}) {
            due("set", x.link(bad, 0, 0, 0, 0), BAD);
            due("way", x.link(0, bad, 0, 0, 0), BAD);
            due("from a control", x.link(0, 0, bad, 0, 0), BAD);
            due("from a node", x.link(0, 1, bad, 0, 0), BAD);
            due("sign", x.link(0, 0, 0, bad, 0), BAD);
            due("to", x.link(0, 0, 0, 0, bad), BAD);
        }
        due("no second set", x.link(1, 0, 0, 0, 0), BAD);
        due("no third way", x.link(0, 2, 0, 0, 0), BAD);
        due("no fourth control", x.link(0, 0, 3, 0, 0), BAD);
        due("though a fourth node", x.link(0, 1, 3, 0, 0), 1);
        due("no third sign", x.link(0, 0, 0, 2, 0), BAD);
        due("the bad ones are not counted", x.link(0, 0, 2, 1, 5), 2);
    }

    @Says(in = "Promise 10: link", words = "FULL.")
    static void promise10_full() {
        Runs x = new Runs();
        x.set();
        for (int i = 0; i < 24; i++) {
            due("the same, told again", x.link(0, 0, 0, 0, 0), i + 1);
        }
        x.last(0, 1, 1, true);
        due("full", x.link(0, 0, 0, 0, 1), FULL);
        x.push(0);
        due("no link", x.in(0), 0);
        due("still full", x.link(0, 0, 0, 0, 0), FULL);
    }

    @Says(in = "Promise 11: last",
        words = "A CONTROL (way 0) or NODE (1) is LAST, or not: whether it was (1, 0).")
    static void promise11_whetherItWas() {
        Runs x = machineOf(5, 1);
        x.set();
        x.set();
        for (int way = 0; way < 2; way++) {
            for (int k = 0; k < 5 + way; k++) {
                due("at first, not last", x.last(0, way, k, false), 0);
                due("it was not", x.last(0, way, k, true), 0);
                due("it was", x.last(0, way, k, true), 1);
                due("it was, to be so no more", x.last(0, way, k, false), 1);
                due("it was not", x.last(0, way, k, false), 0);
                x.last(0, way, k, true);
                due("the other set's was not", x.last(1, way, k, false), 0);
            }
        }
        for (int k = 0; k < 5; k++) {
            x.stand(k);
            due("all controls", x.in(0), 1);
            due("none of the other", x.in(1), 0);
        }
    }

    @Says(in = "Promise 11: last", words = "BAD.")
    static void promise11_badOfEachArgument() {
        Runs x = machineOf(3, 5);
        x.set();
        for (boolean is : new boolean[] {true, false}) {
            for (int bad : new int[] {-1, 6, LEAST, MOST}) {
                due("set", x.last(bad, 0, 0, is), BAD);
                due("way", x.last(0, bad, 0, is), BAD);
                due("control", x.last(0, 0, bad, is), BAD);
                due("node", x.last(0, 1, bad, is), BAD);
            }
            due("no second set", x.last(1, 0, 0, is), BAD);
            due("no third way", x.last(0, 2, 0, is), BAD);
            due("no fourth control", x.last(0, 0, 3, is), BAD);
        }
        due("though a fourth node", x.last(0, 1, 3, true), 0);
        due("none was made last", x.in(0), 0);
    }

    @Says(in = "Promise 12: unset", words = "The SET that came last goes: how many are left.")
    static void promise12_theLastSetGoes() {
        Runs x = machineOf(5, 1);
        for (int i = 0; i < 6; i++) {
            x.last(x.set(), 0, i % 5, true);
        }
        for (int left = 5; left >= 1; left--) {
            due("left", x.unset(), left);
            due("it went", x.in(left), BAD);
            x.stand(left - 1);
            due("the one before it stays", x.in(left - 1), 1);
        }
        due("none left", x.unset(), 0);
        due("how many", x.count(3), 0);
    }

    @Says(in = "Promise 12: unset", words = "NOT: there is none.")
    static void promise12_notWithoutASet() {
        Runs x = new Runs();
        due("at first", x.unset(), NOT);
        x.set();
        due("one", x.unset(), 0);
        due("none", x.unset(), NOT);
        due("no less than none", x.count(3), 0);
        due("the first again", x.set(), 0);
        x.machine(2, 2);
        due("all went", x.unset(), NOT);
    }

    @Says(in = "Promise 13: in", words = "Whether THE STAND is IN a SET (1, 0).")
    static void promise13_whether() {
        Runs x = machineOf(1, 1, rule(0, 0, 0, -1, -1));
        int set = emptyAt(x, 0);
        due("in", x.in(set), 1);
        x.push(0);
        due("not in, though a run leads there", x.in(set), 0);
        due("a run leads there", x.far(set), 1);
        x.go(0);
        due("in again", x.in(set), 1);
        x.last(set, 0, 0, false);
        due("no longer", x.in(set), 0);
    }

    @Says(in = "Promise 13: in", words = "BAD.")
    static void promise13_bad() {
        Runs x = new Runs();
        due("no set", x.in(0), BAD);
        x.set();
        for (int set : new int[] {-1, 1, 6, LEAST, MOST}) {
            due("set " + set, x.in(set), BAD);
        }
    }

    // ---- Promises 14 to 20

    @Says(in = "Promise 14: far", words = "FAR; NONE: no RUN leads there.")
    static void promise14_noneIsNotNought() {
        Runs x = machineOf(2, 2, rule(0, 0, 1, -1, -1));
        int set = emptyAt(x, 1);
        int never = x.set();
        due("a set without stands", x.far(never), NONE);
        due("an empty stack of another control", x.far(set), NONE);
        place(x, 0, 1);
        due("stuck at once", x.far(set), NONE);
        place(x, 0, 0, 0);
        due("stuck on the way", x.far(set), NONE);
        place(x, 0, 0);
        due("one step", x.far(set), 1);
        x.go(0);
        due("in it", x.far(set), 0);
    }

    @Says(in = "Promise 14: far", words = "BAD.")
    static void promise14_bad() {
        Runs x = new Runs();
        due("no set", x.far(0), BAD);
        x.set();
        for (int set : new int[] {-1, 1, 6, LEAST, MOST}) {
            due("set " + set, x.far(set), BAD);
        }
    }

    @Says(in = "Promise 14: far", words = "FAR;")
    static void promise14_farIsAnewWhenAnythingChanges() {
        Runs x = machineOf(1, 2, rule(0, 0, 0, 1, -1));
        int set = x.set();
        x.push(0);
        due("no links", x.far(set), NONE);
        x.link(set, 0, 0, 1, 0);
        due("no last one", x.far(set), NONE);
        x.last(set, 1, 0, true);
        due("one step", x.far(set), 1);
        x.link(set, 0, 0, 0, 0);
        due("a link more", x.far(set), 0);
        x.last(set, 1, 0, false);
        due("no last one", x.far(set), NONE);
        x.last(set, 0, 0, true);
        due("no pop", x.far(set), NONE);
        x.rule(0, 1, 0, -1, -1);
        due("a rule more", x.far(set), 2);
        x.rule(0, 0, 0, -1, -1);
        due("a rule more", x.far(set), 1);
        x.unrule();
        due("a rule less", x.far(set), 2);
        x.push(0);
        due("a sign more", x.far(set), 4);
        x.go(0);
        due("a step gone", x.far(set), 3);
        x.stand(0);
        due("an empty stack", x.far(set), 0);
    }

    @Says(in = "Promise 15: step", words = "of the RULES that GO and make FAR one less that with the least number GOES: that.")
    static void promise15_theLeastNumberOfThoseThatMakeFarOneLess() {
        Runs x = machineOf(2, 3, rule(1, 0, 0, -1, -1), rule(0, 0, 0, 0, -1), rule(0, 0, 0, 1, -1),
            rule(0, 0, 0, 2, 2), rule(0, 0, 0, 2, -1), rule(0, 0, 0, 2, -1), rule(0, 2, 0, -1, -1),
            rule(0, 1, 0, 2, -1));
        int set = emptyAt(x, 0);
        x.push(0);
        due("far", x.far(set), 2);
        due("past one of another control, those that lead round, on or too far", x.step(set), 4);
        standIs("it has gone", x, 0, 2);
        due("far", x.far(set), 1);
        due("the last step", x.step(set), 6);
        standIs("it has gone", x, 0);
    }

    @Says(in = "Promise 15: step", words = "make FAR one less")
    static void promise15_notTheFirstRuleThatLeadsThere() {
        Runs x = machineOf(1, 2, rule(0, 0, 0, 1, -1), rule(0, 1, 0, -1, -1), rule(0, 0, 0, -1, -1));
        int set = emptyAt(x, 0);
        x.push(0);
        due("rule 0 leads there, too, but FAR stays one", x.step(set), 2);
        due("in it", x.in(set), 1);
    }

    @Says(in = "Promise 15: step", words = "BAD;")
    static void promise15_bad() {
        Runs x = machineOf(1, 1, rule(0, 0, 0, -1, -1));
        due("no set", x.step(0), BAD);
        emptyAt(x, 0);
        x.push(0);
        for (int set : new int[] {-1, 1, 6, LEAST, MOST}) {
            due("set " + set, x.step(set), BAD);
        }
        standIs("as it was", x, 0, 0);
        due("room for the step", x.step(0), 0);
    }

    @Says(in = "Promise 15: step", words = "NOT;")
    static void promise15_not() {
        Runs x = machineOf(1, 2, rule(0, 0, 0, -1, -1));
        int set = emptyAt(x, 0);
        due("in already", x.step(set), NOT);
        place(x, 0, 1);
        due("no run, none goes", x.step(set), NOT);
        standIs("as it was", x, 0, 1);
        place(x, 0, 0, 1);
        due("no run, though one goes", x.step(set), NOT);
        standIs("as it was", x, 0, 0, 1);
        int deep = x.set();
        x.link(deep, 0, 0, 1, 0);
        x.last(deep, 1, 0, true);
        due("a run to another set", x.step(deep), 0);
        due("in already, with a sign", x.step(deep), NOT);
    }

    @Says(in = "Promise 15: step", words = "FULL.")
    static void promise15_full() {
        Runs x = machineOf(1, 2, rule(0, 0, 0, 1, 1), rule(0, 0, 0, 1, -1));
        int ones = x.set();
        x.link(ones, 0, 0, 1, 0);
        x.link(ones, 1, 0, 0, 1);
        x.link(ones, 1, 0, 1, 0);
        x.link(ones, 1, 1, 0, 1);
        x.last(ones, 1, 1, true);
        pile(x, 0, 0, 60);
        due("one", x.far(ones), 1);
        due("the least has no room, though the other one has", x.step(ones), FULL);
        standIs("as it was", x, 0, new int[60]);
        due("it is not in it", x.in(ones), 0);
        pile(x, 0, 0, 59);
        due("room", x.step(ones), 0);
        due("sixty", x.count(4), 60);
    }

    @Says(in = "Promise 16: run", words = "Up to k such STEPS (0 .. 2000)")
    static void promise16_upToKSteps() {
        Runs x = longMachine();
        due("bad", x.run(0, -1), BAD);
        due("bad", x.run(0, 2001), BAD);
        due("bad", x.run(0, LEAST), BAD);
        due("bad", x.run(0, MOST), BAD);
        due("far", x.far(0), 7579);
        due("none", x.run(0, 0), 0);
        due("far", x.far(0), 7579);
        due("one", x.run(0, 1), 1);
        due("far", x.far(0), 7578);
        due("1999", x.run(0, 1999), 1999);
        due("far", x.far(0), 5579);
        due("2000", x.run(0, 2000), 2000);
        due("far", x.far(0), 3579);
        due("2000", x.run(0, 2000), 2000);
        due("far", x.far(0), 1579);
        due("what is left", x.run(0, 2000), 1579);
        standIs("all popped", x, 1);
    }

    /** 53 signs at hand, each of which costs 143 steps to pop; the seven signs of room are used. */
    private static Runs longMachine() {
        Runs x = machineOf(2, 5, rule(0, 0, 0, -1, -1), rule(0, 1, 0, 0, 0), rule(0, 2, 0, 1, 1), rule(0, 3, 0, 2, 2),
            rule(0, 4, 1, -1, -1), rule(1, 0, 0, 3, 4), rule(1, 1, 1, 0, 0), rule(1, 2, 1, 1, 1), rule(1, 3, 1, 2, 2));
        due("pop", x.pop(1, 3, 1), 143);
        emptyAt(x, 1);
        pile(x, 1, 3, 53);
        return x;
    }

    @Says(in = "Promise 16: run", words = "such STEPS")
    static void promise16_theSameStepsAsStep() {
        Runs x = longMachine();
        Runs y = longMachine();
        due("fifty by run", x.run(0, 50), 50);
        for (int i = 0; i < 50; i++) {
            y.step(0);
        }
        int height = y.count(4);
        due("height", x.count(4), height);
        for (int i = -1; i < height; i++) {
            due("at " + i, x.at(i), y.at(i));
        }
    }

    @Says(in = "Promise 16: run", words = "as long as it is not IN the SET")
    static void promise16_asLongAsItIsNotIn() {
        Runs x = machineOf(1, 1, rule(0, 0, 0, -1, -1));
        int empty = emptyAt(x, 0);
        due("in already, up to none", x.run(empty, 0), 0);
        due("in already", x.run(empty, 2000), 0);
        int even = heightsOf(x, 0, 0, 0, 2);
        pile(x, 0, 0, 5);
        due("to four", x.run(even, 2000), 1);
        due("no further", x.run(even, 2000), 0);
        due("four", x.count(4), 4);
        due("to the end", x.run(empty, 4), 4);
    }

    @Says(in = "Promise 16: run", words = "and there is room: how many.")
    static void promise16_asLongAsThereIsRoom() {
        Runs x = machineOf(1, 1, rule(0, 0, 0, 0, 0));
        int four = heightsOf(x, 0, 0, 4, 6);
        pile(x, 0, 0, 59);
        due("far", x.far(four), 5);
        due("one, then no room", x.run(four, 2000), 1);
        due("sixty", x.count(4), 60);
        due("none, as there is no room", x.run(four, 2000), 0);
        due("none", x.run(four, 0), 0);
        due("sixty", x.count(4), 60);
        due("step says why", x.step(four), FULL);
    }

    @Says(in = "Promise 16: run", words = "BAD;")
    static void promise16_bad() {
        Runs x = machineOf(1, 1, rule(0, 0, 0, -1, -1));
        due("no set", x.run(0, 0), BAD);
        emptyAt(x, 0);
        x.push(0);
        for (int set : new int[] {-1, 1, 6, LEAST, MOST}) {
            due("set " + set, x.run(set, 1), BAD);
        }
        for (int k : new int[] {-1, 2001, LEAST, MOST}) {
            due("k " + k, x.run(0, k), BAD);
        }
        standIs("as it was", x, 0, 0);
    }

    @Says(in = "Promise 16: run", words = "NOT: there is no RUN")
    static void promise16_notWithoutARun() {
        Runs x = machineOf(1, 2, rule(0, 0, 0, -1, -1));
        int set = emptyAt(x, 0);
        place(x, 0, 0, 1);
        due("though one goes", x.run(set, 2000), NOT);
        due("even up to none", x.run(set, 0), NOT);
        standIs("as it was", x, 0, 0, 1);
        int never = x.set();
        due("a set without stands", x.run(never, 1), NOT);
        x.stand(0);
        due("a set without stands", x.run(never, 1), NOT);
    }

    @Says(in = "Promise 17: pop", words = "POP; NONE: there is no such RUN.")
    static void promise17_none() {
        Runs x = machineOf(2, 2, rule(0, 0, 1, -1, -1), rule(0, 1, 0, 1, -1), rule(1, 0, 1, 0, 0));
        due("one", x.pop(0, 0, 1), 1);
        due("not to itself", x.pop(0, 0, 0), NONE);
        due("round and round", x.pop(0, 1, 0), NONE);
        due("higher and higher", x.pop(1, 0, 1), NONE);
        due("no rule", x.pop(1, 1, 1), NONE);
    }

    @Says(in = "Promise 17: pop", words = "BAD.")
    static void promise17_bad() {
        Runs x = machineOf(3, 2);
        for (int bad : new int[] {-1, 3, 5, LEAST, MOST}) {
            due("p", x.pop(bad, 0, 0), BAD);
            due("s", x.pop(0, bad, 0), BAD);
            due("q", x.pop(0, 0, bad), BAD);
        }
        due("no third sign", x.pop(0, 2, 0), BAD);
        due("the last of each", x.pop(2, 1, 2), NONE);
    }

    @Says(in = "Promise 18: endless", words = "Whether it is ENDLESS (1, 0).")
    static void promise18_whether() {
        Runs x = machineOf(1, 1);
        due("an empty stack, no rules", x.endless(), 0);
        x.push(0);
        due("no rules", x.endless(), 0);
        x.rule(0, 0, 0, -1, -1);
        due("one step", x.endless(), 0);
        x.rule(0, 0, 0, 0, -1);
        due("for ever", x.endless(), 1);
        x.unrule();
        due("it ends again", x.endless(), 0);
        x.rule(0, 0, 0, 0, 0);
        due("for ever", x.endless(), 1);
        x.stand(0);
        due("not from an empty stack", x.endless(), 0);
    }

    @Says(in = "Promise 19: high", words = "HIGH; NONE.")
    static void promise19_none() {
        Runs x = machineOf(1, 2);
        due("an empty stack is nought, not none", x.high(), 0);
        x.push(0);
        x.rule(0, 0, 0, 0, -1);
        due("endless, but no higher", x.high(), 1);
        x.rule(0, 0, 0, 1, 0);
        due("one higher", x.high(), 2);
        x.rule(0, 1, 0, -1, -1);
        due("pushed and popped: the same again", x.high(), 2);
        x.rule(0, 0, 0, 0, 1);
        due("none", x.high(), NONE);
        x.unrule();
        due("one higher", x.high(), 2);
        x.rule(0, 1, 0, 0, -1);
        due("none", x.high(), NONE);
    }

    @Says(in = "Promise 20: count",
        words = "0 CONTROLS, 1 SIGNS, 2 RULES, 3 SETS, 4 SIGNS of THE STAND's STACK, 5 RULES that GO at THE STAND.")
    static void promise20_whatIsCounted() {
        Runs x = machineOf(5, 4, rule(1, 2, 0, 0, 0), rule(1, 3, 0, 0, 0), rule(1, 2, 0, 0, 0), rule(0, 2, 0, 0, 0));
        x.set();
        x.set();
        x.set();
        place(x, 1, 2, 3, 3, 3, 3, 3);
        int[] want = {5, 4, 4, 3, 6, 2};
        for (int what = 0; what <= 5; what++) {
            due("count " + what, x.count(what), want[what]);
        }
    }

    @Says(in = "Promise 20: count", words = "5 RULES that GO at THE STAND.")
    static void promise20_rulesThatGo() {
        Runs x = new Runs();
        for (int i = 0; i < 30; i++) {
            x.rule(0, 0, 0, 0, 0);
        }
        due("none at an empty stack", x.count(5), 0);
        x.push(0);
        due("all thirty", x.count(5), 30);
        x.push(1);
        due("none at another sign", x.count(5), 0);
        place(x, 1, 0);
        due("none at another control", x.count(5), 0);
        pile(x, 0, 0, 60);
        due("they go, though there is no room", x.count(5), 30);
    }

    @Says(in = "Promise 20: count", words = "BAD.")
    static void promise20_bad() {
        Runs x = new Runs();
        for (int what : new int[] {-1, 6, 7, LEAST, MOST}) {
            due("count " + what, x.count(what), BAD);
        }
    }

    // ---- how the tests are run

    private static String plain(String text) {
        return text.replace("`", "").replaceAll("\\s+", " ");
    }

    /** Where the document cannot be read the tests still hold; only their names are not looked at. */
    private static String readDocument() throws IOException {
        if (!Files.isReadable(DOCUMENT)) {
            System.out.println("there is no " + DOCUMENT + " to look the sentences up in");
            return null;
        }
        return Files.readString(DOCUMENT);
    }

    private static void lookUp(String document, Says says) {
        String title = "\n## " + says.in() + "\n";
        int from = document.indexOf(title);
        if (from < 0) {
            fail("there is no section " + says.in());
            return;
        }
        int behind = document.indexOf("\n## ", from + title.length());
        String section = document.substring(from, behind < 0 ? document.length() : behind);
        if (!plain(section).contains(plain(says.words()))) {
            fail("the section " + says.in() + " does not say: " + says.words());
        }
    }

    public static void main(String[] args) throws IOException, ReflectiveOperationException {
        String document = readDocument();
        Method[] methods = BoundaryTest.class.getDeclaredMethods();
        Arrays.sort(methods, Comparator.comparing(Method::getName));
        int tests = 0;
        for (Method method : methods) {
            Says says = method.getAnnotation(Says.class);
            if (says == null) {
                continue;
            }
            tests++;
            test = method.getName();
            if (document != null) {
                lookUp(document, says);
            }
            try {
                method.invoke(null);
            } catch (InvocationTargetException thrown) {
                fail("threw " + thrown.getCause());
            }
        }
        System.out.println(tests + " sentences");
        System.out.println(wrong == 0 ? "all answers are as due" : wrong + " answers are not as due");
        if (wrong != 0) {
            System.exit(1);
        }
    }
}
