import java.util.LinkedHashMap;
import java.util.Map;
import java.util.function.Supplier;

/** Descriptions and stages of use that many tests begin with; tests extend it to use its names as they are. */
class Fixture extends Check {
    static final int MIN = Integer.MIN_VALUE, MAX = Integer.MAX_VALUE;
    static final int[] NO_VARIABLES = {-1, 6, 7, 256, MIN, MAX};
    static final int[] NO_WORDS = {
        13, 255, -1, MIN | 13, MAX, 1 | 6 << 8, 1 | -1 << 8, 11 | 6 << 8, 11 | -1 << 8, 2 | 1 << 8, 9 | -1 << 8, 10 | 1 << 8,
        12 | MIN};

    Fixture() {
    }

    /** One rule: while variable 0 is below the limit, it grows by 1. Not sealed. */
    static ProtoCheck counter(int limit, int... invariant) {
        ProtoCheck x = new ProtoCheck();
        rule(x, var(0), num(limit), LESS, THEN, var(0), num(1), PLUS, set(0));
        invariant(x, invariant);
        return x;
    }

    /** Broken when the variable comes to that value. */
    static int[] never(int v, int value) {
        return new int[] {var(v), num(value), EQUAL, NOT};
    }

    static ProtoCheck sealed(ProtoCheck x) {
        due("seal()", x.seal(), 0);
        return x;
    }

    static ProtoCheck explored(ProtoCheck x, int n, int want) {
        due("explore(" + n + ")", x.explore(n), want);
        return x;
    }

    /** Four states, 0 to 3 in variable 0, all expanded. */
    static ProtoCheck held() {
        return explored(sealed(counter(3, num(1))), 4, 0);
    }

    /** Broken after two steps. */
    static ProtoCheck violated() {
        return explored(sealed(counter(3, never(0, 2))), 9, 0);
    }

    static ProtoCheck violatedAtOnce() {
        return sealed(counter(3, never(0, 0)));
    }

    static ProtoCheck outOfRoom() {
        return explored(sealed(counter(1000, num(1))), MAX, -5);
    }

    /** Twelve rules, the last of them and the invariant of 32 words. Not sealed. */
    static ProtoCheck filledUp() {
        ProtoCheck x = new ProtoCheck();
        for (int r = 0; r < 11; r++) {
            rule(x, var(0), num(r), EQUAL, THEN, num(r + 1), set(0));
        }
        rule(x, num(1), THEN);
        for (int i = 0; i < 15; i++) {
            due("feedRule(CONST)", x.feedRule(num(i)), 0);
            due("feedRule(SET)", x.feedRule(set(1)), 0);
        }
        invariant(x, num(0));
        for (int i = 0; i < 31; i++) {
            due("feedInvariant(NOT)", x.feedInvariant(NOT), 0);
        }
        return x;
    }

    private static ProtoCheck refused(ProtoCheck x, int want) {
        due("seal() refused", x.seal(), want);
        return x;
    }

    static ProtoCheck refusedWithRule() {
        ProtoCheck x = counter(3, num(1));
        x.beginRule();
        return refused(x, 1);
    }

    static ProtoCheck refusedWithInvariant() {
        return refused(counter(3), 2);
    }

    static ProtoCheck refusedWithBlocks() {
        ProtoCheck x = counter(3, num(1));
        x.setSymGroup(0, 1);
        x.setSymGroup(1, 1);
        return refused(x, 3);
    }

    private static ProtoCheck begunAnew(ProtoCheck x) {
        x.init();
        return x;
    }

    static Map<String, Supplier<ProtoCheck>> unsealedStages() {
        Map<String, Supplier<ProtoCheck>> out = new LinkedHashMap<>();
        out.put("new", ProtoCheck::new);
        out.put("described", () -> counter(3, never(0, 2)));
        out.put("filled up", Fixture::filledUp);
        out.put("refused with 1", Fixture::refusedWithRule);
        out.put("refused with 2", Fixture::refusedWithInvariant);
        out.put("refused with 3", Fixture::refusedWithBlocks);
        out.put("begun anew after holding", () -> begunAnew(held()));
        out.put("begun anew after violated", () -> begunAnew(violated()));
        out.put("begun anew after no room", () -> begunAnew(outOfRoom()));
        return out;
    }

    static Map<String, Supplier<ProtoCheck>> sealedStages() {
        Map<String, Supplier<ProtoCheck>> out = new LinkedHashMap<>();
        out.put("sealed", () -> sealed(counter(3, never(0, 2))));
        out.put("sealed without rules", () -> sealed(withInvariant(num(1))));
        out.put("sealed and filled up", () -> sealed(filledUp()));
        out.put("under way", () -> explored(sealed(counter(3, never(0, 2))), 1, 1));
        out.put("holding", Fixture::held);
        out.put("violated", Fixture::violated);
        out.put("violated at once", Fixture::violatedAtOnce);
        out.put("no room", Fixture::outOfRoom);
        return out;
    }

    static ProtoCheck withInvariant(int... words) {
        ProtoCheck x = new ProtoCheck();
        invariant(x, words);
        return x;
    }

    static ProtoCheck withBlocks(int... numbers) {
        ProtoCheck x = new ProtoCheck();
        for (int v = 0; v < numbers.length; v++) {
            due("setSymGroup(" + v + ", " + numbers[v] + ")", x.setSymGroup(v, numbers[v]), 0);
        }
        return x;
    }

    static void setInit(ProtoCheck x, int... values) {
        for (int v = 0; v < values.length; v++) {
            due("setInit(" + v + ", " + values[v] + ")", x.setInit(v, values[v]), 0);
        }
    }

    /** Asks about the state that begins with these values, the others being 0. */
    static int reachable(ProtoCheck x, int... values) {
        for (int v = 0; v < 6; v++) {
            x.probeVar(v, v < values.length ? values[v] : 0);
        }
        return x.isReachable();
    }

    static void dueState(String what, ProtoCheck x, int step, int... values) {
        for (int v = 0; v < 6; v++) {
            due(what + ": traceVar(" + step + ", " + v + ")", x.traceVar(step, v), v < values.length ? values[v] : 0);
        }
    }

    /** What seal() says of that one rule, all else being right. */
    static int sealRule(int... words) {
        ProtoCheck x = withInvariant(num(1));
        rule(x, words);
        return x.seal();
    }

    static int sealInvariant(int... words) {
        return withInvariant(words).seal();
    }

    /** The value that the words leave in a first state that begins so (at most 4 values), read in a counterexample of one step. */
    static int value(int[] first, int... words) {
        ProtoCheck x = new ProtoCheck();
        setInit(x, first);
        rule(x, num(1), THEN);
        for (int w : words) {
            due("feedRule(" + w + ")", x.feedRule(w), 0);
        }
        due("feedRule(SET 5)", x.feedRule(set(5)), 0);
        due("feedRule(CONST 1)", x.feedRule(num(1)), 0);
        due("feedRule(SET 4)", x.feedRule(set(4)), 0);
        invariant(x, var(4), NOT);
        explored(sealed(x), 1, 0);
        return x.traceVar(1, 5);
    }

    static int[] row(int... words) {
        return words;
    }

    /** n times CONST 1, and so many words PLUS that one value is left. */
    static int[] sumOf(int n) {
        int[] out = new int[2 * n - 1];
        for (int i = 0; i < out.length; i++) {
            out[i] = i < n ? num(1) : PLUS;
        }
        return out;
    }

    /** Eight values on the stack, 1, 2, 4 and so on, then their sum, 255. */
    static int[] sumOfPowers() {
        int[] out = sumOf(8);
        for (int i = 0; i < 8; i++) {
            out[i] = num(1 << i);
        }
        return out;
    }

    static int[] joined(int[]... rows) {
        int n = 0;
        for (int[] r : rows) {
            n += r.length;
        }
        int[] out = new int[n];
        int at = 0;
        for (int[] r : rows) {
            System.arraycopy(r, 0, out, at, r.length);
            at += r.length;
        }
        return out;
    }
}
