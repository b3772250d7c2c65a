import java.util.ArrayList;
import java.util.List;
import java.util.Random;

/** Runs made up from fixed seeds, on ProtoCheck and on the model side by side, every answer compared. */
public final class ModelTest {
    private static final int[] ODD = {-1, 6, 7, 255, 256, 399, 400, 401, Integer.MIN_VALUE, Integer.MAX_VALUE};

    private static final int MOST_CALLS = 512;

    private final Random random;
    private final String name;
    private final ProtoCheck real = new ProtoCheck();
    private final Model model = new Model();
    private int calls = 0;
    private int[] blocks = new int[6];

    private static final int[] verdicts = new int[3];
    private static final int[] seals = new int[4];
    private static int roomEnded = 0;

    private ModelTest(int seed) {
        random = new Random(seed);
        name = "seed " + seed + ": ";
    }

    private void due(String call, int got, int want) {
        calls++;
        // What an object answers to later calls is free.
        if (calls <= MOST_CALLS) Check.due(name + call + " (call " + calls + ")", got, want);
    }

    private int upTo(int n) {
        return random.nextInt(n + 1);
    }

    private int mostly(int highest) {
        return upTo(15) == 0 ? ODD[upTo(ODD.length - 1)] : upTo(highest);
    }

    private int smallNumber() {
        switch (upTo(9)) {
            case 0: return -upTo(3);
            case 1: return upTo(300);
            case 2: return random.nextInt() >> upTo(20);
            default: return upTo(3);
        }
    }

    private int anyWord() {
        switch (upTo(5)) {
            case 0: return random.nextInt();
            case 1: return random.nextInt() << 8;
            case 2: return upTo(14) | (upTo(8) - 1) << 8;
            case 3: return Check.var(upTo(5));
            default: return upTo(12);
        }
    }

    /** Words that leave one value; 'deep' bounds their number. */
    private void expression(List<Integer> out, int deep) {
        if (deep >= 2 && upTo(7) == 0) {
            manyValues(out);
        } else if (deep <= 0 || upTo(3) == 0) {
            out.add(upTo(2) == 0 ? Check.num(smallNumber()) : Check.var(upTo(5)));
        } else if (upTo(5) == 0) {
            expression(out, deep - 1);
            out.add(Check.NOT);
        } else {
            expression(out, deep - 1);
            expression(out, deep - 2);
            out.add(2 + upTo(6));
        }
    }

    /** So many values before the first word that takes them that the stack gets full, or nearly. */
    private void manyValues(List<Integer> out) {
        int n = 3 + upTo(5);
        for (int i = 0; i < n; i++) out.add(upTo(1) == 0 ? Check.num(smallNumber()) : Check.var(upTo(5)));
        for (int i = 1; i < n; i++) out.add(2 + upTo(6));
    }

    private List<Integer> condition() {
        List<Integer> out = new ArrayList<>();
        switch (upTo(4)) {
            case 0:
                expression(out, 3);
                break;
            case 1:
                out.add(Check.num(1));
                break;
            default:
                out.add(Check.var(upTo(5)));
                out.add(upTo(2) == 0 ? Check.var(upTo(5)) : Check.num(upTo(4)));
                out.add(upTo(2) == 0 ? Check.EQUAL : Check.LESS);
        }
        return out;
    }

    private List<Integer> someRule() {
        List<Integer> out = condition();
        out.add(Check.THEN);
        int sets = 1 + upTo(2);
        for (int i = 0; i < sets; i++) {
            int v = upTo(5);
            if (upTo(2) == 0) {
                expression(out, 2);
            } else if (upTo(1) == 0) {
                out.add(Check.var(v));
                out.add(Check.num(upTo(3) == 0 ? -1 : 1));
                out.add(Check.PLUS);
            } else {
                out.add(upTo(1) == 0 ? Check.num(upTo(4)) : Check.var(upTo(5)));
            }
            out.add(Check.set(v));
        }
        return out;
    }

    private List<Integer> somePart() {
        List<Integer> out = new ArrayList<>();
        if (upTo(3) == 0) {
            expression(out, 3);
        } else {
            out.add(Check.var(upTo(5)));
            out.add(Check.num(upTo(7)));
            out.add(upTo(1) == 0 ? Check.LESS : Check.EQUAL);
            if (out.get(2) == Check.EQUAL) out.add(Check.NOT);
        }
        return out;
    }

    private static List<Integer> exchange(List<Integer> words, int a, int b) {
        List<Integer> out = new ArrayList<>();
        for (int w : words) {
            for (int from : new int[] {a, b}) {
                if (w == Check.var(from) || w == Check.set(from)) {
                    w += (a + b - 2 * from) << 8;
                    break;
                }
            }
            out.add(w);
        }
        return out;
    }

    /** Adds what exchanging within the blocks makes, so that the blocks are right if there is room for all. */
    private void close(List<List<Integer>> rows, int most) {
        for (int i = 0; i < rows.size() && rows.size() < most; i++) {
            for (int a = 0; a < 6; a++) {
                for (int b = a + 1; b < 6; b++) {
                    if (blocks[a] == 0 || blocks[a] != blocks[b]) continue;
                    List<Integer> other = exchange(rows.get(i), a, b);
                    if (!rows.contains(other)) rows.add(other);
                }
            }
        }
    }

    private void setBlock(int v, int g) {
        due("setSymGroup(" + v + ", " + g + ")", real.setSymGroup(v, g), model.setSymGroup(v, g));
        if (v >= 0 && v < 6 && g >= 0 && g <= 3) blocks[v] = g;
    }

    private void feedRules() {
        List<List<Integer>> rules = new ArrayList<>();
        int n = upTo(3);
        for (int i = 0; i < n; i++) rules.add(someRule());
        close(rules, 12);
        for (List<Integer> rule : rules) {
            if (upTo(200) == 0) rule.remove(upTo(rule.size() - 1));
            due("beginRule()", real.beginRule(), model.beginRule());
            for (int w : rule) due("feedRule(" + w + ")", real.feedRule(w), model.feedRule(w));
        }
    }

    private void feedInvariant() {
        List<List<Integer>> parts = new ArrayList<>();
        int n = 1 + upTo(1);
        for (int i = 0; i < n; i++) parts.add(somePart());
        close(parts, 7);
        boolean isFirst = true;
        for (List<Integer> part : parts) {
            if (!isFirst) due("feedInvariant(12)", real.feedInvariant(12), model.feedInvariant(12));
            isFirst = false;
            for (int w : part) due("feedInvariant(" + w + ")", real.feedInvariant(w), model.feedInvariant(w));
        }
    }

    private void describe() {
        int kind = upTo(3);
        for (int v = 0; v < 6; v++) {
            if (kind > 0 && upTo(1) == 0) setBlock(v, upTo(kind == 1 ? 1 : 3));
            if (upTo(2) == 0) {
                int x = smallNumber();
                due("setInit(" + v + ", " + x + ")", real.setInit(v, x), model.setInit(v, x));
            }
        }
        feedRules();
        if (upTo(20) > 0) feedInvariant();
    }

    private void ask() {
        due("verdict()", real.verdict(), model.verdict());
        due("stateCount()", real.stateCount(), model.stateCount());
        due("traceLen()", real.traceLen(), model.traceLen());
        due("replay()", real.replay(), model.replay());
        int steps = Math.min(model.traceLen(), 12);
        for (int i = -1; i <= steps + 1; i++) {
            due("traceRule(" + i + ")", real.traceRule(i), model.traceRule(i));
            int v = mostly(5);
            due("traceVar(" + i + ", " + v + ")", real.traceVar(i, v), model.traceVar(i, v));
        }
    }

    private void oneCall() {
        int a = mostly(5);
        int b = mostly(3);
        int w = anyWord();
        switch (upTo(15)) {
            case 0: due("setInit", real.setInit(a, b), model.setInit(a, b)); break;
            case 1: setBlock(a, b); break;
            case 2: due("beginRule", real.beginRule(), model.beginRule()); break;
            case 3: due("feedRule " + w, real.feedRule(w), model.feedRule(w)); break;
            case 4: due("feedInvariant " + w, real.feedInvariant(w), model.feedInvariant(w)); break;
            case 5: due("seal", real.seal(), model.seal()); break;
            case 6: due("explore", real.explore(b), model.explore(b)); break;
            case 7: due("verdict", real.verdict(), model.verdict()); break;
            case 8: due("stateCount", real.stateCount(), model.stateCount()); break;
            case 9: due("traceLen", real.traceLen(), model.traceLen()); break;
            case 10: due("traceRule " + a, real.traceRule(a), model.traceRule(a)); break;
            case 11: due("traceVar " + a + " " + b, real.traceVar(a, b), model.traceVar(a, b)); break;
            case 12: due("replay", real.replay(), model.replay()); break;
            case 13: due("probeVar", real.probeVar(a, b), model.probeVar(a, b)); break;
            default: due("isReachable", real.isReachable(), model.isReachable());
        }
    }

    private void noise(int most) {
        int n = upTo(most);
        for (int i = 0; i < n; i++) oneCall();
    }

    private void exploreToTheEnd() {
        int[] steps = {0, upTo(5), upTo(60), upTo(3) == 0 ? Integer.MAX_VALUE : 1000};
        for (int n : steps) {
            int want = model.explore(n);
            due("explore(" + n + ")", real.explore(n), want);
            if (want == -5) roomEnded++;
            ask();
        }
    }

    private void probe() {
        for (int i = 0; i < 8; i++) {
            int v = upTo(5);
            int x = smallNumber();
            due("probeVar(" + v + ", " + x + ")", real.probeVar(v, x), model.probeVar(v, x));
            due("isReachable()", real.isReachable(), model.isReachable());
        }
    }

    private void oneDescription() {
        blocks = new int[6];
        if (upTo(4) == 0) noise(6);
        describe();
        ask();
        int sealed = model.seal();
        due("seal()", real.seal(), sealed);
        if (sealed >= 0) seals[sealed]++;
        if (upTo(3) == 0) noise(10);
        exploreToTheEnd();
        verdicts[model.verdict()]++;
        if (model.verdict() == 2) due("a shortest run", real.traceLen(), model.shortestRun(Integer.MAX_VALUE));
        probe();
        noise(6);
        beginAnew();
    }

    private void beginAnew() {
        calls++;
        real.init();
        model.init();
    }

    private static void longRun(int seed) {
        ModelTest t = new ModelTest(seed);
        while (t.calls < 250) t.oneDescription();
    }

    private static void wildRun(int seed) {
        ModelTest t = new ModelTest(seed);
        for (int i = 0; i < 400; i++) {
            t.oneCall();
            if (t.upTo(80) == 0) t.beginAnew();
        }
    }

    public static void main(String[] args) {
        int runs = args.length > 0 ? Integer.parseInt(args[0]) : 3000;
        for (int seed = 1; seed <= runs; seed++) {
            longRun(seed);
            if (seed % 4 == 0) wildRun(-seed);
        }
        System.out.println("seal answered 0 to 3: " + seals[0] + ", " + seals[1] + ", " + seals[2] + ", " + seals[3]
            + "; verdicts 0 to 2: " + verdicts[0] + ", " + verdicts[1] + ", " + verdicts[2] + "; no room: " + roomEnded);
        // The runs are worth something only if they come to every end.
        int ends = Math.min(Math.min(verdicts[1], verdicts[2]), Math.min(roomEnded, Math.min(seals[0], seals[3])));
        Check.due("every end is come to", ends > runs / 100 ? 1 : 0, 1);
        Check.end("ModelTest");
    }
}
