/** For each promise of the document: ordinary inputs, the edges that it names, and wrong inputs. */
public final class PromiseTest {
    private static final int PLUS = Check.PLUS, MINUS = Check.MINUS, TIMES = Check.TIMES, EQUAL = Check.EQUAL,
        LESS = Check.LESS, AND = Check.AND, OR = Check.OR, NOT = Check.NOT, THEN = Check.THEN, ALSO = Check.ALSO;
    private static final int MIN = Integer.MIN_VALUE, MAX = Integer.MAX_VALUE;
    private static final int[] NO_VARIABLES = {-1, 6, 7, 255, 256, MIN, MAX};
    private static final int[] NO_WORDS = {
        13, 14, 255, -1, MIN | 13, MAX, 1 | 6 << 8, 1 | -1 << 8, 11 | 6 << 8, 11 | -1 << 8, 11 | MIN, 1 | MIN,
        2 | 256, 3 | 256, 4 | 256, 5 | 256, 6 | 256, 7 | 256, 8 | 256, 9 | 256, 10 | 256, 12 | 256,
        2 | -256, 9 | -256, 10 | -256, 12 | -256, 10 | MIN, 128, 17, 1 | 65536};

    private PromiseTest() {
    }

    private static int num(int k) {
        return Check.num(k);
    }

    private static int var(int v) {
        return Check.var(v);
    }

    private static int set(int v) {
        return Check.set(v);
    }

    private static void due(String what, long got, long want) {
        Check.due(what, got, want);
    }

    /** Everything that can be asked of an object as after init(), without changing it for good. */
    private static void dueFresh(String when, ProtoCheck x) {
        due(when + ": stateCount()", x.stateCount(), 0);
        due(when + ": verdict()", x.verdict(), 0);
        due(when + ": explore(5)", x.explore(5), -2);
        due(when + ": traceLen()", x.traceLen(), -1);
        due(when + ": traceRule(0)", x.traceRule(0), -1);
        due(when + ": traceVar(0, 0)", x.traceVar(0, 0), 0);
        due(when + ": replay()", x.replay(), 0);
        due(when + ": isReachable()", x.isReachable(), -6);
        due(when + ": feedRule(0)", x.feedRule(0), -4);
        due(when + ": seal()", x.seal(), 2);
        // Violated at once if all is 0, so the first state can be read in the counterexample.
        Check.invariant(x, num(0));
        due(when + ": seal() with words", x.seal(), 0);
        due(when + ": traceLen() sealed", x.traceLen(), 0);
        for (int v = 0; v < 6; v++) {
            due(when + ": first state " + v, x.traceVar(0, v), 0);
        }
        x.init();
        Check.invariant(x, num(1));
        due(when + ": seal() to ask", x.seal(), 0);
        due(when + ": explore(1) to ask", x.explore(1), 0);
        due(when + ": the state asked about is all 0", x.isReachable(), 1);
        x.init();
    }

    private static void promise1() {
        dueFresh("new", new ProtoCheck());
        ProtoCheck x = new ProtoCheck();
        due("new: beginRule()", x.beginRule(), 0);
        ProtoCheck y = new ProtoCheck();
        due("two objects share nothing", y.beginRule(), 0);
    }

    private static void promise2() {
        ProtoCheck x = new ProtoCheck();
        for (int v = 0; v < 6; v++) {
            x.setInit(v, v + 1);
            x.probeVar(v, 9);
        }
        x.setSymGroup(4, 2);
        x.setSymGroup(5, 2);
        Check.rule(x, num(1), THEN, var(0), num(1), PLUS, set(0));
        Check.invariant(x, var(0), num(3), LESS);
        due("seal() before init", x.seal(), 0);
        due("explore(9) before init", x.explore(9), 0);
        due("verdict() before init", x.verdict(), 2);
        x.init();
        dueFresh("after a violated one", x);
        Check.invariant(x, var(4), num(1), PLUS);
        due("block numbers are 0 again", x.seal(), 0);
        x.init();
        Check.rule(x, num(1), THEN, var(0), num(1), PLUS, set(0));
        Check.invariant(x, num(1));
        due("seal() of an endless one", x.seal(), 0);
        due("explore() of an endless one", x.explore(MAX), -5);
        x.init();
        dueFresh("after no room", x);
        due("beginRule() begins at 0 again", x.beginRule(), 0);
        due("beginRule() goes on", x.beginRule(), 1);
        x.init();
        Check.rule(x, num(1), THEN);
        Check.invariant(x, num(1));
        due("words of a rule begun before init are gone", x.seal(), 0);
        x.init();
        x.setInit(2, 5);
        x.probeVar(2, 5);
        x.init();
        dueFresh("after init of an unsealed one", x);
        askedIsForgotten();
    }

    private static void askedIsForgotten() {
        ProtoCheck x = new ProtoCheck();
        Check.invariant(x, num(1));
        x.seal();
        x.explore(1);
        for (int v = 0; v < 6; v++) {
            x.probeVar(v, 7);
        }
        due("asked about all 7", x.isReachable(), 0);
        x.init();
        Check.invariant(x, num(1));
        x.seal();
        x.explore(1);
        due("init makes the state asked about all 0", x.isReachable(), 1);
    }

    private static void promise3() {
        ProtoCheck x = new ProtoCheck();
        for (int v : NO_VARIABLES) {
            due("setInit(" + v + ", 1)", x.setInit(v, 1), -1);
        }
        for (int v = 0; v < 6; v++) {
            due("setInit(" + v + ")", x.setInit(v, 99), 0);
            due("setInit(" + v + ") again", x.setInit(v, v == 5 ? MIN : MAX - v), 0);
        }
        Check.invariant(x, num(0));
        due("seal()", x.seal(), 0);
        for (int v = 0; v < 6; v++) {
            due("sealed setInit", x.setInit(v, 3), -2);
            due("first state", x.traceVar(0, v), v == 5 ? MIN : MAX - v);
        }
        due("sealed, no variable", x.setInit(6, 3), -1);
        due("sealed, no variable", x.setInit(-1, 3), -1);
    }

    private static void promise4() {
        ProtoCheck x = new ProtoCheck();
        for (int v : NO_VARIABLES) {
            due("setSymGroup(" + v + ", 1)", x.setSymGroup(v, 1), -1);
        }
        int[] noBlocks = {-1, 4, 5, 256, MIN, MAX};
        for (int g : noBlocks) {
            due("setSymGroup(0, " + g + ")", x.setSymGroup(0, g), -1);
        }
        for (int v = 0; v < 6; v++) {
            for (int g = 0; g <= 3; g++) {
                due("setSymGroup(" + v + ", " + g + ")", x.setSymGroup(v, g), 0);
            }
        }
        due("a wrong block number changes nothing", x.setSymGroup(0, 4), -1);
        x.setInit(0, 5);
        Check.invariant(x, num(1));
        due("seal()", x.seal(), 0);
        due("sealed", x.setSymGroup(0, 1), -2);
        due("sealed, no variable", x.setSymGroup(6, 1), -1);
        due("sealed, no block", x.setSymGroup(0, 4), -1);
        x.explore(1);
        x.probeVar(3, 5);
        due("all six are one block", x.isReachable(), 1);
    }

    private static void promise5() {
        ProtoCheck x = new ProtoCheck();
        for (int r = 0; r < 12; r++) {
            due("beginRule()", x.beginRule(), r);
        }
        due("a 13th rule", x.beginRule(), -3);
        due("a 13th rule again", x.beginRule(), -3);
        due("the 12th can be fed", x.feedRule(num(1)), 0);
        due("the 12th can be fed", x.feedRule(THEN), 0);
        Check.invariant(x, num(1));
        due("eleven rules have no words", x.seal(), 1);
        x.init();
        for (int r = 0; r < 12; r++) {
            Check.rule(x, var(0), num(r), EQUAL, THEN, num(r + 1), set(0));
        }
        Check.invariant(x, num(1));
        due("twelve rules", x.seal(), 0);
        due("sealed and full: sealed first", x.beginRule(), -2);
        due("twelve rules fire", x.explore(100), 0);
        due("twelve rules: states", x.stateCount(), 13);
    }

    private static void promise6() {
        ProtoCheck x = new ProtoCheck();
        due("no rule", x.feedRule(0), -4);
        due("no rule, no word", x.feedRule(13), -4);
        x.beginRule();
        for (int w : NO_WORDS) {
            due("feedRule(" + w + ")", x.feedRule(w), -1);
        }
        int[] words = {0, num(MAX >> 8), num(MIN >> 8), -256, var(0), var(5), 2, 3, 4, 5, 6, 7, 8, 9, 10, set(0), set(5), 12};
        for (int w : words) {
            due("feedRule(" + w + ")", x.feedRule(w), 0);
        }
        for (int i = words.length; i < 32; i++) {
            due("word " + i, x.feedRule(0), 0);
        }
        due("a 33rd word", x.feedRule(0), -3);
        due("full, and no word", x.feedRule(13), -1);
        due("another rule", x.beginRule(), 1);
        due("has room", x.feedRule(0), 0);
        x.init();
        due("a rule", x.beginRule(), 0);
        due("another", x.beginRule(), 1);
        due("the last one is fed", x.feedRule(num(1)), 0);
        due("the last one is fed", x.feedRule(THEN), 0);
        Check.invariant(x, num(1));
        due("the first has no words", x.seal(), 1);
        longestRule();
        x.init();
        Check.invariant(x, num(1));
        due("seal()", x.seal(), 0);
        due("sealed, no rule, no word", x.feedRule(13), -2);
    }

    private static void longestRule() {
        ProtoCheck x = new ProtoCheck();
        Check.rule(x, num(1), THEN);
        for (int i = 0; i < 15; i++) {
            x.feedRule(num(i));
            x.feedRule(set(0));
        }
        due("a 33rd word", x.feedRule(num(1)), -3);
        Check.invariant(x, var(0), num(14), LESS);
        due("a rule of 32 words", x.seal(), 0);
        due("its last word counts", x.explore(1), 0);
        due("its last word counts", x.traceVar(1, 0), 14);
        due("sealed, full", x.feedRule(num(1)), -2);
    }

    private static void promise7() {
        ProtoCheck x = new ProtoCheck();
        for (int w : NO_WORDS) {
            due("feedInvariant(" + w + ")", x.feedInvariant(w), -1);
        }
        int[] words = {0, num(MAX >> 8), num(MIN >> 8), var(0), var(5), 2, 3, 4, 5, 6, 7, 8, 9, 10, set(0), set(5), 12};
        for (int w : words) {
            due("feedInvariant(" + w + ")", x.feedInvariant(w), 0);
        }
        for (int i = words.length; i < 32; i++) {
            due("word " + i, x.feedInvariant(0), 0);
        }
        due("a 33rd word", x.feedInvariant(0), -3);
        due("full, and no word", x.feedInvariant(13), -1);
        x.init();
        Check.invariant(x, num(0));
        for (int i = 1; i < 32; i++) {
            due("word " + i, x.feedInvariant(NOT), 0);
        }
        due("a 33rd word", x.feedInvariant(NOT), -3);
        due("seal()", x.seal(), 0);
        due("31 times not 0 is 1", x.verdict(), 0);
        due("sealed, no word", x.feedInvariant(13), -2);
        due("sealed", x.feedInvariant(0), -2);
    }

    private static void dueRule(String what, int want, int... words) {
        ProtoCheck x = new ProtoCheck();
        Check.rule(x, words);
        due(what + ", before the invariant", x.seal(), want == 0 ? 2 : want);
        Check.invariant(x, num(1));
        due(what, x.seal(), want);
        due(what + ", stateCount()", x.stateCount(), want == 0 ? 1 : 0);
        due(what + ", again", x.seal(), want == 0 ? -2 : want);
    }

    private static void dueInvariant(String what, int want, int... words) {
        ProtoCheck x = new ProtoCheck();
        Check.invariant(x, words);
        due(what, x.seal(), want);
        due(what + ", stateCount()", x.stateCount(), want == 0 ? 1 : 0);
    }

    private static void rightRules() {
        dueRule("no words", 1);
        dueRule("only THEN", 1, THEN);
        dueRule("no THEN", 1, num(1));
        dueRule("two values", 1, num(1), num(1), THEN);
        dueRule("nothing done", 0, num(1), THEN);
        dueRule("a value left", 1, num(1), THEN, num(1));
        dueRule("two THEN", 1, num(1), THEN, THEN);
        dueRule("two THEN with a value", 1, num(1), THEN, num(1), THEN);
        dueRule("SET in the condition", 1, num(1), num(1), set(0), THEN);
        dueRule("ALSO in the condition", 1, num(1), ALSO, num(1), THEN);
        dueRule("ALSO behind THEN", 1, num(1), THEN, ALSO);
        dueRule("SET without a value", 1, num(1), THEN, set(0));
        dueRule("SET takes no condition", 1, num(1), num(1), THEN, set(0));
        dueRule("NOT without a value", 1, NOT, num(1), THEN);
        dueRule("NOT of one", 0, num(1), NOT, THEN);
        dueRule("a value set twice", 0, num(1), THEN, num(1), num(2), set(0), set(0));
        for (int op = 2; op <= 8; op++) {
            dueRule("op " + op + " with one value", 1, num(1), op, THEN);
            dueRule("op " + op + " with two", 0, num(1), num(2), op, THEN);
            dueRule("op " + op + " with none", 1, op, THEN);
            dueRule("op " + op + " with one behind THEN", 1, num(1), THEN, num(1), op, set(0));
            dueRule("op " + op + " with two behind THEN", 0, num(1), THEN, num(1), num(1), op, set(0));
        }
        int n = num(1);
        dueRule("8 values", 0, n, n, n, n, n, n, n, n, 2, 2, 2, 2, 2, 2, 2, THEN);
        dueRule("9 values", 1, n, n, n, n, n, n, n, n, var(0), 2, 2, 2, 2, 2, 2, 2, 2, THEN);
        dueRule("8 values behind THEN", 0, n, THEN, n, n, n, n, n, n, n, var(1), 2, 2, 2, 2, 2, 2, 2, set(5));
        dueRule("9 values behind THEN", 1, n, THEN, n, n, n, n, n, n, n, n, n, 2, 2, 2, 2, 2, 2, 2, 2, set(5));
        dueRule("10 values", 1, n, n, n, n, n, n, n, n, n, n, THEN);
        dueRule("too few for a word, then one", 1, n, PLUS, n, THEN);
        dueRule("ALSO after two values", 1, n, n, ALSO, THEN);
        dueRule("ALSO after two values behind THEN", 1, n, THEN, n, n, ALSO, set(0));
        dueRule("THEN after two values behind THEN", 1, n, THEN, n, n, THEN, set(0));
        dueRule("8 values, NOT", 0, n, n, n, n, n, n, n, n, NOT, 2, 2, 2, 2, 2, 2, 2, THEN);
    }

    private static void rightInvariants() {
        dueInvariant("no words", 2);
        dueInvariant("one part", 0, num(1));
        dueInvariant("two parts", 0, num(1), ALSO, num(1));
        dueInvariant("ALSO first", 2, ALSO, num(1));
        dueInvariant("ALSO last", 2, num(1), ALSO);
        dueInvariant("ALSO twice", 2, num(1), ALSO, ALSO, num(1));
        dueInvariant("only ALSO", 2, ALSO);
        dueInvariant("two values", 2, num(1), num(1));
        dueInvariant("two values in the second part", 2, num(1), ALSO, num(1), num(1));
        dueInvariant("two values in the first part", 2, num(1), num(1), ALSO, num(1));
        dueInvariant("no value goes over to the next part", 2, num(1), num(1), ALSO, num(1), 2);
        dueInvariant("the stack is empty for each part", 2, num(1), ALSO, NOT);
        dueInvariant("THEN", 2, num(1), THEN);
        dueInvariant("THEN between", 2, num(1), THEN, num(1));
        dueInvariant("SET", 2, num(1), num(1), set(0));
        dueInvariant("op without values", 2, num(1), PLUS);
        dueInvariant("THEN after two values", 2, num(1), num(1), THEN);
        int n = num(1);
        dueInvariant("8 values", 0, n, n, n, n, n, n, n, n, 2, 2, 2, 2, 2, 2, 2);
        dueInvariant("9 values", 2, n, n, n, n, n, n, n, n, n, 2, 2, 2, 2, 2, 2, 2, 2);
        dueInvariant("8 values in the second part", 0, n, ALSO, n, n, n, n, n, n, n, n, 2, 2, 2, 2, 2, 2, 2);
    }

    private static ProtoCheck blocksOf(int... numbers) {
        ProtoCheck x = new ProtoCheck();
        for (int v = 0; v < numbers.length; v++) {
            due("setSymGroup", x.setSymGroup(v, numbers[v]), 0);
        }
        return x;
    }

    private static void rightBlocks() {
        ProtoCheck x = blocksOf(1, 1);
        Check.rule(x, var(0), THEN, num(1), set(0));
        Check.invariant(x, num(1));
        due("a rule without its other", x.seal(), 3);
        Check.rule(x, var(1), THEN, num(1), set(0));
        due("only VAR exchanged", x.seal(), 3);
        Check.rule(x, var(1), THEN, num(1), set(1));
        due("the second rule has none", x.seal(), 3);
        Check.rule(x, var(0), THEN, num(1), set(1));
        due("each has its other", x.seal(), 0);

        x = blocksOf(1, 1);
        Check.rule(x, num(1), THEN, num(1), set(0), num(1), set(1));
        Check.invariant(x, num(1));
        due("in another order of words", x.seal(), 3);

        x = blocksOf(1, 2, 0, 3);
        Check.rule(x, var(0), THEN, num(1), set(1));
        Check.invariant(x, var(3), NOT);
        due("blocks of one variable do nothing", x.seal(), 0);

        x = blocksOf(0, 0, 1, 1);
        Check.rule(x, var(0), THEN, num(1), set(1));
        Check.rule(x, var(0), THEN, num(1), set(1));
        Check.invariant(x, var(0), NOT, ALSO, var(2), NOT, ALSO, var(3), NOT);
        due("variables outside the block stay", x.seal(), 0);

        x = blocksOf(1, 1);
        Check.invariant(x, var(0), var(1), PLUS);
        due("a part in another order", x.seal(), 3);
        Check.invariant(x, ALSO, var(1), var(0), PLUS);
        due("two parts in both orders", x.seal(), 0);

        x = blocksOf(1, 1);
        Check.invariant(x, var(0), ALSO, var(1), NOT);
        due("a part that only begins like it", x.seal(), 3);

        x = blocksOf(1, 1);
        Check.rule(x, var(0), THEN);
        Check.rule(x, var(1), THEN, num(1), set(2));
        Check.invariant(x, num(1));
        due("a rule that only begins like it", x.seal(), 3);

        x = blocksOf(1, 1, 1);
        Check.invariant(x, var(0), ALSO, var(1));
        due("the third is missing", x.seal(), 3);
        Check.invariant(x, ALSO, var(2));
        due("all three", x.seal(), 0);

        x = blocksOf(3, 0, 0, 0, 0, 3);
        Check.invariant(x, var(0), NOT);
        due("the first and the last variable", x.seal(), 3);
        due("another block number can be given", x.setSymGroup(5, 2), 0);
        due("and then it is right", x.seal(), 0);

        x = blocksOf(2, 2);
        Check.invariant(x, num(1), num(257), PLUS);
        due("CONST is not exchanged", x.seal(), 0);
    }

    private static void promise8() {
        rightRules();
        rightInvariants();
        rightBlocks();
        ProtoCheck x = blocksOf(1, 1);
        Check.rule(x, var(0));
        Check.invariant(x, var(0), num(1));
        due("all three wrong", x.seal(), 1);
        due("can be gone on with", x.feedRule(THEN), 0);
        due("two wrong", x.seal(), 2);
        due("can be gone on with", x.feedInvariant(PLUS), 0);
        due("one wrong", x.seal(), 3);
        due("can be gone on with", x.setSymGroup(0, 2), 0);
        due("can be gone on with", x.setInit(0, -1), 0);
        due("none wrong", x.seal(), 0);
        due("violated at once", x.verdict(), 2);
        due("state 0 is stored", x.stateCount(), 1);
        due("sealed already", x.seal(), -2);

        x = blocksOf(1, 1, 1);
        x.setInit(0, 3);
        x.setInit(1, -2);
        x.setInit(2, MIN);
        Check.invariant(x, num(1));
        due("seal()", x.seal(), 0);
        due("not violated", x.verdict(), 0);
        x.explore(1);
        x.probeVar(0, -2);
        x.probeVar(1, 3);
        x.probeVar(2, MIN);
        due("the standard form is stored", x.isReachable(), 1);
        due("one state", x.stateCount(), 1);
    }

    private static ProtoCheck counter(int... invariant) {
        ProtoCheck x = new ProtoCheck();
        Check.rule(x, num(1), THEN, var(0), num(1), PLUS, set(0));
        Check.invariant(x, invariant);
        return x;
    }

    private static void promise9() {
        ProtoCheck x = counter(num(1));
        due("not sealed", x.explore(1), -2);
        due("seal()", x.seal(), 0);
        int[] none = {0, -1, MIN};
        for (int n : none) {
            due("explore(" + n + ")", x.explore(n), 1);
            due("nothing expanded", x.stateCount(), 1);
        }
        due("explore(1)", x.explore(1), 1);
        due("one expanded", x.stateCount(), 2);
        due("explore(398)", x.explore(398), 1);
        due("400 stored", x.stateCount(), 400);
        due("explore(0)", x.explore(0), 1);
        due("no room", x.explore(1), -5);
        due("no room before", x.explore(0), -5);
        due("no room before", x.explore(MIN), -5);
        due("not all expanded", x.verdict(), 0);
        due("400 stored", x.stateCount(), 400);

        x = new ProtoCheck();
        Check.rule(x, var(0), num(399), LESS, THEN, var(0), num(1), PLUS, set(0));
        Check.rule(x, num(1), THEN, num(0), set(0));
        Check.invariant(x, num(1));
        x.seal();
        due("just 400 states", x.explore(399), 1);
        due("400 are stored", x.stateCount(), 400);
        due("the last one", x.explore(1), 0);
        due("all hold", x.verdict(), 1);
        due("nothing more", x.explore(MAX), 0);
        due("nothing more", x.explore(-3), 0);

        x = counter(var(0), num(399), LESS);
        x.seal();
        due("the 400th breaks it", x.explore(MAX), 0);
        due("the 400th breaks it", x.verdict(), 2);
        due("the longest counterexample", x.traceLen(), 399);
        due("its end", x.traceVar(399, 0), 399);
        due("its last rule", x.traceRule(398), 0);
        due("violated", x.explore(0), 0);
        due("violated", x.explore(5), 0);

        x = counter(var(0), num(400), LESS);
        x.seal();
        due("the 401st would break it", x.explore(MAX), -5);
        due("the 401st would break it", x.verdict(), 0);
        orderOfExpanding();
    }

    private static void orderOfExpanding() {
        ProtoCheck x = new ProtoCheck();
        Check.rule(x, var(0), NOT, THEN, num(5), set(0));
        Check.rule(x, var(0), NOT, THEN, num(7), set(0));
        Check.rule(x, var(0), NOT, THEN, num(8), set(0));
        Check.rule(x, var(0), num(5), EQUAL, THEN, num(6), set(0));
        Check.invariant(x, var(0), num(7), EQUAL, NOT);
        x.seal();
        due("expanding ends at the breaking state", x.explore(1), 0);
        due("expanding ends at the breaking state", x.stateCount(), 3);
        due("nothing is expanded any more", x.explore(10), 0);
        due("nothing is expanded any more", x.stateCount(), 3);
        due("it is the second rule's", x.traceRule(0), 1);

        x = new ProtoCheck();
        Check.rule(x, num(1), THEN, num(1), set(1), num(2), set(1), var(1), set(0));
        Check.invariant(x, var(1), num(2), EQUAL, ALSO, num(1));
        x.setInit(1, 2);
        x.seal();
        due("VAR is the state before, the last SET counts", x.explore(1), 1);
        due("VAR is the state before, the last SET counts", x.stateCount(), 2);
        due("nothing new", x.explore(1), 0);
        x.probeVar(0, 2);
        x.probeVar(1, 2);
        due("VAR is the state before, the last SET counts", x.isReachable(), 1);

        x = new ProtoCheck();
        x.setInit(0, 1);
        x.setInit(1, 2);
        Check.rule(x, num(1), THEN, var(1), set(0), var(0), set(1));
        Check.invariant(x, num(1));
        x.seal();
        due("changing places", x.explore(100), 0);
        due("changing places", x.stateCount(), 2);
        x.probeVar(0, 2);
        x.probeVar(1, 1);
        due("changing places", x.isReachable(), 1);
    }

    private static void promise10() {
        ProtoCheck x = counter(var(0), num(2), LESS);
        due("not sealed", x.verdict(), 0);
        x.seal();
        due("sealed", x.verdict(), 0);
        x.explore(1);
        due("holds so far", x.verdict(), 0);
        x.explore(1);
        due("violated", x.verdict(), 2);
        x.init();
        Check.invariant(x, num(1));
        x.seal();
        due("no rules, not expanded", x.verdict(), 0);
        due("no rules", x.explore(1), 0);
        due("no rules, expanded", x.verdict(), 1);
        x.init();
        Check.invariant(x, num(1), ALSO, var(0), ALSO, num(1));
        x.seal();
        due("one part is 0", x.verdict(), 2);
        x.init();
        Check.invariant(x, num(-1), ALSO, num(2));
        x.seal();
        due("any value but 0 holds", x.verdict(), 0);
        values();
    }

    /** The value of x op y, read in the counterexample. */
    private static void dueValue(int x, int op, int y, int want) {
        ProtoCheck p = new ProtoCheck();
        p.setInit(0, x);
        p.setInit(1, y);
        Check.rule(p, num(1), THEN, var(0), var(1), op, set(2), num(1), set(3));
        Check.invariant(p, var(3), NOT);
        due("seal()", p.seal(), 0);
        due("explore(1)", p.explore(1), 0);
        due(x + " op " + op + " " + y, p.traceVar(1, 2), want);
    }

    private static void values() {
        dueValue(3, PLUS, 4, 7);
        dueValue(MAX, PLUS, 1, MIN);
        dueValue(3, MINUS, 4, -1);
        dueValue(MIN, MINUS, 1, MAX);
        dueValue(3, TIMES, -4, -12);
        dueValue(65536, TIMES, 65536, 0);
        dueValue(MAX, TIMES, MAX, 1);
        dueValue(5, EQUAL, 5, 1);
        dueValue(5, EQUAL, 6, 0);
        dueValue(5, LESS, 6, 1);
        dueValue(5, LESS, 5, 0);
        dueValue(6, LESS, 5, 0);
        dueValue(MIN, LESS, MAX, 1);
        dueValue(-1, LESS, 0, 1);
        dueValue(12, AND, 10, 8);
        dueValue(1, AND, 2, 0);
        dueValue(12, OR, 3, 15);
        dueValue(MIN, OR, 1, MIN + 1);
        fullStack();
        int[] numbers = {0, 1, -1, MAX >> 8, MIN >> 8};
        for (int k : numbers) {
            ProtoCheck p = new ProtoCheck();
            Check.rule(p, num(1), THEN, num(k), set(0), num(k), NOT, set(1), num(1), set(5));
            Check.invariant(p, var(5), NOT);
            p.seal();
            p.explore(1);
            due("CONST " + k, p.traceVar(1, 0), k);
            due("NOT " + k, p.traceVar(1, 1), k == 0 ? 1 : 0);
        }
    }

    private static void fullStack() {
        int[] eight = {num(1), num(2), num(4), num(8), num(16), num(32), num(64), num(128), 2, 2, 2, 2, 2, 2, 2};
        ProtoCheck x = new ProtoCheck();
        Check.rule(x, eight);
        due("THEN", x.feedRule(THEN), 0);
        for (int w : eight) {
            due("feedRule(" + w + ")", x.feedRule(w), 0);
        }
        due("SET", x.feedRule(set(4)), 0);
        Check.invariant(x, eight);
        Check.invariant(x, num(255), EQUAL, ALSO, var(4), num(255), EQUAL, NOT);
        due("seal()", x.seal(), 0);
        due("eight values add up in a part", x.verdict(), 0);
        due("explore(1)", x.explore(1), 0);
        due("eight values add up behind THEN", x.traceVar(1, 4), 255);

        x = new ProtoCheck();
        int[] minus = {num(1), num(2), num(4), num(8), num(16), num(32), num(64), num(43), 3, 3, 3, 3, 3, 3, 3};
        Check.rule(x, minus);
        Check.invariant(x, var(0), NOT);
        due("THEN", x.feedRule(THEN), 0);
        due("CONST", x.feedRule(num(1)), 0);
        due("SET", x.feedRule(set(0)), 0);
        due("seal()", x.seal(), 0);
        due("1-(2-(4-(8-(16-(32-(64-43)))))) is 0", x.explore(9), 0);
        due("so the rule may not fire", x.verdict(), 1);
    }

    private static void promise11() {
        ProtoCheck x = counter(num(1));
        due("before sealing", x.stateCount(), 0);
        x.seal();
        for (int i = 1; i < 30; i++) {
            due("stateCount()", x.stateCount(), i);
            x.explore(1);
        }
        x = blocksOf(1, 1, 1);
        for (int v = 0; v < 3; v++) {
            Check.rule(x, var(v), num(3), LESS, THEN, var(v), num(1), PLUS, set(v));
        }
        Check.invariant(x, num(1));
        due("seal()", x.seal(), 0);
        due("explore()", x.explore(1000), 0);
        due("three alike with four values each", x.stateCount(), 20);
        x = new ProtoCheck();
        for (int v = 0; v < 3; v++) {
            Check.rule(x, var(v), num(3), LESS, THEN, var(v), num(1), PLUS, set(v));
        }
        Check.invariant(x, num(1));
        x.seal();
        due("explore()", x.explore(1000), 0);
        due("three with four values each", x.stateCount(), 64);
    }

    /** Three alike, the third begins ahead: the shortest run that breaks it has two steps. */
    private static ProtoCheck threeAlike() {
        ProtoCheck x = blocksOf(2, 2, 2);
        x.setInit(0, 2);
        x.setInit(1, 0);
        x.setInit(2, 1);
        x.setInit(5, 44);
        for (int v = 0; v < 3; v++) {
            Check.rule(x, num(1), THEN, var(v), num(1), PLUS, set(v));
        }
        Check.invariant(x, var(0), num(4), EQUAL, NOT, ALSO, var(1), num(4), EQUAL, NOT, ALSO, var(2), num(4), EQUAL, NOT);
        due("seal()", x.seal(), 0);
        return x;
    }

    private static void promise12() {
        ProtoCheck x = threeAlike();
        due("not yet violated", x.traceLen(), -1);
        due("explore()", x.explore(400), 0);
        due("traceLen()", x.traceLen(), 2);
        x = new ProtoCheck();
        due("new", x.traceLen(), -1);
        Check.invariant(x, var(0));
        x.seal();
        due("violated at once", x.traceLen(), 0);
        x.init();
        due("init", x.traceLen(), -1);
        Check.invariant(x, num(1));
        x.seal();
        x.explore(1);
        due("holds in all", x.traceLen(), -1);
        x = counter(num(1));
        x.seal();
        x.explore(500);
        due("no room", x.traceLen(), -1);
    }

    private static void promise13() {
        ProtoCheck x = threeAlike();
        due("not yet violated", x.traceRule(0), -1);
        x.explore(400);
        due("the first state has the highest in variable 0", x.traceRule(0), 0);
        due("and so has the next", x.traceRule(1), 0);
        int[] none = {2, 3, 400, 401, -1, MIN, MAX};
        for (int i : none) {
            due("traceRule(" + i + ")", x.traceRule(i), -1);
        }
        x = new ProtoCheck();
        Check.rule(x, var(1), THEN, num(1), set(0));
        Check.rule(x, num(1), THEN);
        Check.rule(x, num(1), THEN, num(1), set(0));
        Check.rule(x, num(1), THEN, num(1), set(0));
        Check.invariant(x, var(0), NOT);
        x.seal();
        x.explore(1);
        due("the lowest rule that may fire and leads there", x.traceRule(0), 2);
        x.init();
        Check.invariant(x, num(0));
        x.seal();
        due("no steps", x.traceRule(0), -1);
    }

    private static void promise14() {
        ProtoCheck x = threeAlike();
        due("not yet violated", x.traceVar(0, 0), 0);
        x.explore(400);
        int[][] want = {{2, 0, 1, 0, 0, 44}, {3, 0, 1, 0, 0, 44}, {4, 0, 1, 0, 0, 44}};
        for (int i = 0; i < 3; i++) {
            for (int v = 0; v < 6; v++) {
                due("traceVar(" + i + ", " + v + ")", x.traceVar(i, v), want[i][v]);
            }
            for (int v : NO_VARIABLES) {
                due("traceVar(" + i + ", " + v + ")", x.traceVar(i, v), 0);
            }
        }
        int[] none = {3, 4, 399, 400, 401, -1, MIN, MAX, MAX / 6 + 1};
        for (int i : none) {
            due("traceVar(" + i + ", 5)", x.traceVar(i, 5), 0);
        }
        x.init();
        due("init", x.traceVar(0, 5), 0);
        x.setInit(5, 3);
        Check.invariant(x, num(1));
        x.seal();
        due("not violated", x.traceVar(0, 5), 0);
    }

    private static void promise15() {
        ProtoCheck x = threeAlike();
        due("not yet violated", x.replay(), 0);
        x.explore(400);
        due("violated", x.replay(), 1);
        due("still violated", x.replay(), 1);
        x.init();
        due("init", x.replay(), 0);
        Check.invariant(x, num(1));
        x.seal();
        x.explore(1);
        due("holds in all", x.replay(), 0);
    }

    private static void promise16() {
        ProtoCheck x = new ProtoCheck();
        for (int v : NO_VARIABLES) {
            due("probeVar(" + v + ", 1)", x.probeVar(v, 1), -1);
        }
        for (int v = 0; v < 6; v++) {
            due("probeVar before sealing", x.probeVar(v, v + 10), 0);
            x.setInit(v, v + 10);
        }
        Check.invariant(x, num(1));
        x.seal();
        x.explore(1);
        due("asked before sealing", x.isReachable(), 1);
        for (int v = 0; v < 6; v++) {
            due("probeVar", x.probeVar(v, MIN), 0);
            due("another one", x.isReachable(), 0);
            due("no variable", x.probeVar(6 + v, v + 10), -1);
            due("nothing changed", x.isReachable(), 0);
            due("probeVar", x.probeVar(v, v + 10), 0);
            due("back again", x.isReachable(), 1);
        }
    }

    private static void promise17() {
        ProtoCheck x = new ProtoCheck();
        due("new", x.isReachable(), -6);
        x = blocksOf(1, 2, 1, 2);
        x.setInit(0, 5);
        x.setInit(2, -5);
        x.setInit(1, 7);
        x.setInit(3, -7);
        Check.invariant(x, num(1));
        x.seal();
        due("not expanded", x.isReachable(), -6);
        x.explore(1);
        due("all 0", x.isReachable(), 0);
        int[][] same = {{5, 7, -5, -7}, {-5, 7, 5, -7}, {5, -7, -5, 7}, {-5, -7, 5, 7}};
        for (int[] s : same) {
            for (int v = 0; v < 4; v++) {
                x.probeVar(v, s[v]);
            }
            due("interchanged", x.isReachable(), 1);
            due("asked again", x.isReachable(), 1);
        }
        int[][] others = {{7, 5, -7, -5}, {5, 5, -5, -5}, {5, 7, 5, 7}, {-5, 7, 5, 7}, {5, -5, 7, -7}};
        for (int[] s : others) {
            for (int v = 0; v < 4; v++) {
                x.probeVar(v, s[v]);
            }
            due("not of one block", x.isReachable(), 0);
        }
        x = counter(var(0), num(2), LESS);
        x.seal();
        x.explore(9);
        due("violated", x.isReachable(), -6);
    }

    public static void main(String[] args) {
        promise1();
        promise2();
        promise3();
        promise4();
        promise5();
        promise6();
        promise7();
        promise8();
        promise9();
        promise10();
        promise11();
        promise12();
        promise13();
        promise14();
        promise15();
        promise16();
        promise17();
        Check.end("PromiseTest");
    }
}
