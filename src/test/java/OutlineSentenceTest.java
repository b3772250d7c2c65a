import java.io.IOException;
import java.util.ArrayList;
import java.util.Arrays;
import java.util.HashMap;
import java.util.List;
import java.util.Map;
import java.util.function.Supplier;

/**
 * The sentences before and behind the promises: whole runs over protocols that are told a second time, in Java, so that
 * what can be reached and what breaks does not come from words at all.
 */
public final class OutlineSentenceTest extends Fixture {
    private static final int MOST_CALLS = 512;
    private static final int IDLE = 0, WANTS = 1, WAITS = 2, INSIDE = 3;
    private static final int TURN = 4;
    private static final int[] ODD_NUMBERS = {
        0, 1, 5, 6, -1, 12, 13, 255, 256, 399, 400, 401, MIN, MAX, MIN | 1, MIN | 11};

    private OutlineSentenceTest() {
    }

    public static void main(String[] args) throws IOException, IllegalAccessException {
        Sentences.run(OutlineSentenceTest.class, "What it is");
    }

    /** A protocol in Java: the state after rule r, null if it may not fire. */
    private interface Protocol {
        int[] after(int r, int[] state);
    }

    private static int[] with(int[] state, int... variablesAndValues) {
        int[] out = state.clone();
        for (int i = 0; i < variablesAndValues.length; i += 2) {
            out[variablesAndValues[i]] = variablesAndValues[i + 1];
        }
        return out;
    }

    /** Every state that can be reached from all 0 and the fewest steps to it. */
    private static Map<List<Integer>, Integer> stepsTo(Protocol protocol, int rules) {
        Map<List<Integer>, Integer> out = new HashMap<>();
        List<int[]> found = new ArrayList<>();
        found.add(new int[6]);
        out.put(listOf(found.get(0)), 0);
        for (int i = 0; i < found.size(); i++) {
            for (int r = 0; r < rules; r++) {
                int[] to = protocol.after(r, found.get(i));
                if (to != null && out.putIfAbsent(listOf(to), out.get(listOf(found.get(i))) + 1) == null) {
                    found.add(to);
                }
            }
        }
        return out;
    }

    private static List<Integer> listOf(int[] state) {
        return Arrays.stream(state).boxed().toList();
    }

    /**
     * Peterson's way for two processes not to be inside at once: variables 0 and 1 tell where they are, 2 and 3 are
     * their flags, 4 is the turn. Rules 0 to 3 are those of process 0, rules 4 to 7 those of process 1.
     */
    private static int[] peterson(int r, int[] s) {
        int me = r / 4;
        int other = 1 - me;
        switch (r % 4) {
            case 0: return s[me] == IDLE ? with(s, 2 + me, 1, me, WANTS) : null;
            case 1: return s[me] == WANTS ? with(s, TURN, other, me, WAITS) : null;
            case 2: return s[me] == WAITS && (s[2 + other] == 0 || s[TURN] == me) ? with(s, me, INSIDE) : null;
            default: return s[me] == INSIDE ? with(s, 2 + me, 0, me, IDLE) : null;
        }
    }

    private static ProtoCheck describedPeterson() {
        ProtoCheck x = new ProtoCheck();
        for (int me = 0; me < 2; me++) {
            int other = 1 - me;
            rule(x, var(me), num(IDLE), EQUAL, THEN, num(1), set(2 + me), num(WANTS), set(me));
            rule(x, var(me), num(WANTS), EQUAL, THEN, num(other), set(TURN), num(WAITS), set(me));
            rule(x, var(me), num(WAITS), EQUAL, var(2 + other), NOT, var(TURN), num(me), EQUAL, OR, AND, THEN,
                num(INSIDE), set(me));
            rule(x, var(me), num(INSIDE), EQUAL, THEN, num(0), set(2 + me), num(IDLE), set(me));
        }
        return x;
    }

    private static int[] neverBothInside() {
        return row(var(0), num(INSIDE), EQUAL, var(1), num(INSIDE), EQUAL, AND, NOT);
    }

    /** Looks at the other's flag first and puts up its own one step later, so that both can come in. */
    private static int[] careless(int r, int[] s) {
        int me = r / 3;
        switch (r % 3) {
            case 0: return s[me] == IDLE && s[3 - me] == 0 ? with(s, me, WANTS) : null;
            case 1: return s[me] == WANTS ? with(s, 2 + me, 1, me, INSIDE) : null;
            default: return s[me] == INSIDE ? with(s, 2 + me, 0, me, IDLE) : null;
        }
    }

    private static ProtoCheck describedCareless() {
        ProtoCheck x = new ProtoCheck();
        for (int me = 0; me < 2; me++) {
            rule(x, var(me), num(IDLE), EQUAL, var(3 - me), NOT, AND, THEN, num(WANTS), set(me));
            rule(x, var(me), num(WANTS), EQUAL, THEN, num(1), set(2 + me), num(INSIDE), set(me));
            rule(x, var(me), num(INSIDE), EQUAL, THEN, num(0), set(2 + me), num(IDLE), set(me));
        }
        return x;
    }

    // What it is

    @Sentence(in = "What it is", says = "A checker of small protocols: somebody describes six variables, a first state, rules and what should always hold;")
    static void everyPieceOfTheDescriptionCounts() {
        for (int v = 0; v < 6; v++) {
            ProtoCheck x = new ProtoCheck();
            setInit(x, 10, 20, 30, 40, 50, 60);
            rule(x, var(v), num(10 * v + 12), LESS, THEN, var(v), num(1), PLUS, set(v));
            invariant(x, never(v, 10 * v + 12));
            explored(sealed(x), 10, 0);
            due("two steps in variable " + v, x.traceLen(), 2);
            for (int w = 0; w < 6; w++) {
                due("variable " + w, x.traceVar(2, w), 10 * w + (w == v ? 12 : 10));
            }
        }
    }

    @Sentence(in = "What it is", says = "the checker goes through all states that can be reached and says that it holds in all of them,")
    static void allThatCanBeReachedIsGoneThrough() {
        ProtoCheck x = describedPeterson();
        invariant(x, neverBothInside());
        explored(sealed(x), MAX, 0);
        Map<List<Integer>, Integer> states = stepsTo(OutlineSentenceTest::peterson, 8);
        due("Peterson holds", x.verdict(), 1);
        due("Peterson's states", x.stateCount(), states.size());
        due("both waiting", reachable(x, WAITS, WAITS, 1, 1, 1), 1);
        due("both inside", reachable(x, INSIDE, INSIDE, 1, 1, 1), 0);
    }

    /** A new object for each state, since one serves 512 calls. */
    @Sentence(in = "What it is", says = "the checker goes through all states that can be reached and says that it holds in all of them,")
    static void whatCannotBeReachedIsNotGoneThrough() {
        Map<List<Integer>, Integer> states = stepsTo(OutlineSentenceTest::peterson, 8);
        for (int code = 0; code < 4 * 4 * 2 * 2 * 2; code++) {
            int[] state = {code & 3, code >> 2 & 3, code >> 4 & 1, code >> 5 & 1, code >> 6, 0};
            ProtoCheck x = describedPeterson();
            invariant(x, neverBothInside());
            explored(sealed(x), MAX, 0);
            due("Peterson in " + listOf(state), reachable(x, state), states.containsKey(listOf(state)) ? 1 : 0);
        }
    }

    @Sentence(in = "What it is", says = "or gives a shortest run that breaks it.")
    static void shortestRunIsGiven() {
        ProtoCheck x = describedCareless();
        invariant(x, neverBothInside());
        explored(sealed(x), MAX, 0);
        due("careless is violated", x.verdict(), 2);
        due("four steps: both look, both come in", x.traceLen(), 4);
        dueRun("careless", x, OutlineSentenceTest::careless);
        due("both inside at the end", x.traceVar(4, 0) + x.traceVar(4, 1), 2 * INSIDE);
    }

    /** Each state of Peterson's is forbidden once: the run to it is as long as the fewest steps, and is a run. */
    @Sentence(in = "What it is", says = "or gives a shortest run that breaks it.")
    static void shortestRunToEachStateIsGiven() {
        for (Map.Entry<List<Integer>, Integer> state : stepsTo(OutlineSentenceTest::peterson, 8).entrySet()) {
            List<Integer> s = state.getKey();
            ProtoCheck x = describedPeterson();
            int[] words = row(var(0), num(s.get(0)), EQUAL);
            for (int v = 1; v <= TURN; v++) {
                words = joined(words, row(var(v), num(s.get(v)), EQUAL, AND));
            }
            invariant(x, joined(words, row(NOT)));
            explored(sealed(x), MAX, 0);
            due("steps to " + s, x.traceLen(), state.getValue());
            dueRun("to " + s, x, OutlineSentenceTest::peterson);
            dueState("to " + s, x, x.traceLen(), s.stream().mapToInt(i -> i).toArray());
        }
    }

    /** Each step's rule makes, in Java too, of the state before it the state after it. */
    private static void dueRun(String what, ProtoCheck x, Protocol protocol) {
        int[] state = new int[6];
        for (int i = 0; i < x.traceLen() && state != null; i++) {
            dueState(what, x, i, state);
            state = protocol.after(x.traceRule(i), state);
            due(what + ": step " + i + " may be fired", state == null ? 0 : 1, 1);
        }
        if (state != null) {
            dueState(what, x, x.traceLen(), state);
        }
    }

    @Sentence(in = "What it is", says = "An object is used for at most 512 calls after it has been made;")
    static void lastCallAfterManyInitsIsAsDue() {
        ProtoCheck x = new ProtoCheck();
        for (int calls = 0; calls < MOST_CALLS - 7; calls++) {
            x.init();
        }
        due("call 506", x.setInit(3, 8), 0);
        due("call 507", x.feedInvariant(num(0)), 0);
        due("call 508", x.seal(), 0);
        due("call 509", x.verdict(), 2);
        due("call 510", x.traceLen(), 0);
        due("call 511", x.replay(), 1);
        due("call 512", x.traceVar(0, 3), 8);
    }

    @Sentence(in = "What it is", says = "An object is used for at most 512 calls after it has been made;")
    static void lastCallAfterManyExploresIsAsDue() {
        ProtoCheck x = sealed(counter(1000, num(1)));
        // beginRule(), eight words of the rule, one of the invariant, seal().
        int calls = 11;
        for (int state = 0; calls < MOST_CALLS - 1; state++) {
            calls++;
            due("call " + calls + " expands state " + state, x.explore(1), state < 399 ? 1 : -5);
        }
        due("call 512", x.stateCount(), 400);
    }

    @Sentence(in = "What it is", says = "what later calls answer is free.")
    static void laterCallsEndAllTheSame() {
        List<Supplier<ProtoCheck>> stages = new ArrayList<>(unsealedStages().values());
        stages.addAll(sealedStages().values());
        for (Supplier<ProtoCheck> stage : stages) {
            ProtoCheck x = stage.get();
            for (int i = 0; i < 3 * MOST_CALLS; i++) {
                oddCall(x, i);
            }
            // Come to only if every call has ended and none has thrown.
            due("later calls end", 1, 1);
        }
    }

    private static void oddCall(ProtoCheck x, int i) {
        int a = ODD_NUMBERS[i % ODD_NUMBERS.length];
        int b = ODD_NUMBERS[i / ODD_NUMBERS.length % ODD_NUMBERS.length];
        switch (i % 17) {
            case 0: x.setInit(a, b); break;
            case 1: x.setSymGroup(a, b); break;
            case 2: x.beginRule(); break;
            case 3: x.feedRule(a); break;
            case 4: x.feedInvariant(a); break;
            case 5: x.seal(); break;
            case 6: x.explore(a); break;
            case 13: x.probeVar(a, b); break;
            // Seldom, so that the stage is stayed in.
            case 16: if (b == 400) x.init(); break;
            default: ask(x, a, b);
        }
    }

    /** Asks all that can be asked. */
    private static List<Integer> ask(ProtoCheck x, int i, int v) {
        return List.of(x.verdict(), x.stateCount(), x.traceLen(), x.traceRule(i), x.traceVar(i, v), x.replay(),
            x.isReachable());
    }

    // Not promised

    @Sentence(in = "Not promised", says = "Nothing is promised beyond the answers and state changes described above,")
    static void questionsChangeNothing() {
        Map<String, Supplier<ProtoCheck>> stages = unsealedStages();
        stages.putAll(sealedStages());
        for (Map.Entry<String, Supplier<ProtoCheck>> stage : stages.entrySet()) {
            ProtoCheck asked = stage.getValue().get();
            ProtoCheck left = stage.getValue().get();
            for (int i = -1; i < 4; i++) {
                ask(asked, i, 0);
            }
            for (int i = -1; i < 4; i++) {
                dueSame(stage.getKey() + ", asked", ask(asked, i, 0), ask(left, i, 0));
            }
            dueSame(stage.getKey() + ", gone on with", goneOnWith(asked), goneOnWith(left));
        }
    }

    private static List<Integer> goneOnWith(ProtoCheck x) {
        List<Integer> out = new ArrayList<>(List.of(x.feedRule(num(1)), x.feedInvariant(NOT), x.beginRule()));
        out.addAll(List.of(x.feedRule(num(1)), x.feedRule(THEN), x.setInit(0, 1), x.seal()));
        out.addAll(List.of(x.explore(1), x.explore(MAX)));
        out.addAll(ask(x, 0, 0));
        out.addAll(List.of(x.probeVar(0, 3), x.isReachable()));
        return out;
    }

    private static void dueSame(String what, List<Integer> got, List<Integer> want) {
        due(what + ": " + got + ", due is " + want, got.equals(want) ? 1 : 0, 1);
    }

    @Sentence(in = "Not promised", says = "and nothing about an object after its 512th call.")
    static void usedUpObjectTouchesNoOther() {
        ProtoCheck usedUp = violated();
        ProtoCheck other = violated();
        for (int i = 0; i < 3 * MOST_CALLS; i++) {
            oddCall(usedUp, i);
        }
        due("the other is violated", other.verdict(), 2);
        due("the other's steps", other.traceLen(), 2);
        dueState("the other", other, 2, 2);
        due("a new one is new", new ProtoCheck().stateCount(), 0);
    }
}
