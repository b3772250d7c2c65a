import java.util.ArrayDeque;
import java.util.ArrayList;
import java.util.Arrays;
import java.util.Deque;
import java.util.HashSet;
import java.util.LinkedHashMap;
import java.util.List;
import java.util.Set;

/** The document in another, slower way: lists and maps of whole states, nothing kept that can be worked out anew. */
final class Model {
    private static final int LIMIT = 400;

    private int[] first = new int[6];
    private int[] asked = new int[6];
    private int[] blocks = new int[6];
    private List<List<Integer>> rules = new ArrayList<>();
    private List<Integer> invariant = new ArrayList<>();
    private boolean sealed = false;
    private boolean noRoom = false;
    private List<Integer> breaking = null;
    // Each stored state with its parent (null for state 0), in the order of their numbers.
    private LinkedHashMap<List<Integer>, List<Integer>> parents = new LinkedHashMap<>();
    private Deque<List<Integer>> waiting = new ArrayDeque<>();

    void init() {
        first = new int[6];
        asked = new int[6];
        blocks = new int[6];
        rules = new ArrayList<>();
        invariant = new ArrayList<>();
        sealed = false;
        noRoom = false;
        breaking = null;
        parents = new LinkedHashMap<>();
        waiting = new ArrayDeque<>();
    }

    int setInit(int v, int x) {
        if (v < 0 || v > 5) return -1;
        if (sealed) return -2;
        first[v] = x;
        return 0;
    }

    int setSymGroup(int v, int g) {
        if (v < 0 || v > 5 || g < 0 || g > 3) return -1;
        if (sealed) return -2;
        blocks[v] = g;
        return 0;
    }

    int beginRule() {
        if (sealed) return -2;
        if (rules.size() == 12) return -3;
        rules.add(new ArrayList<>());
        return rules.size() - 1;
    }

    private static boolean isWord(int w) {
        int op = w & 255, k = w >> 8;
        switch (op) {
            case 0: return true;
            case 1: case 11: return 0 <= k && k <= 5;
            case 2: case 3: case 4: case 5: case 6: case 7: case 8: case 9: case 10: case 12: return k == 0;
            default: return false;
        }
    }

    int feedRule(int w) {
        if (sealed) return -2;
        if (rules.isEmpty()) return -4;
        if (!isWord(w)) return -1;
        List<Integer> last = rules.get(rules.size() - 1);
        if (last.size() == 32) return -3;
        last.add(w);
        return 0;
    }

    int feedInvariant(int w) {
        if (sealed) return -2;
        if (!isWord(w)) return -1;
        if (invariant.size() == 32) return -3;
        invariant.add(w);
        return 0;
    }

    private static List<List<Integer>> split(List<Integer> words, int at) {
        List<List<Integer>> out = new ArrayList<>();
        out.add(new ArrayList<>());
        for (int w : words) {
            if ((w & 255) == at) out.add(new ArrayList<>());
            else out.get(out.size() - 1).add(w);
        }
        return out;
    }

    /** The values left by the words run over a state; null if the stack's limits or the allowed words are broken. */
    private static List<Integer> run(List<Integer> words, boolean maySet, List<Integer> state, Integer[] sets) {
        List<Integer> stack = new ArrayList<>();
        for (int w : words) {
            int op = w & 255, k = w >> 8;
            int takes = op < 2 ? 0 : op < 9 ? 2 : op == 9 || op == 11 ? 1 : 99;
            if (takes > stack.size() || op == 11 && !maySet) return null;
            int y = takes > 0 ? stack.remove(stack.size() - 1) : 0;
            int x = takes > 1 ? stack.remove(stack.size() - 1) : 0;
            if (op == 0) stack.add(k);
            if (op == 1) stack.add(state.get(k));
            if (op == 2) stack.add((int) ((long) x + y));
            if (op == 3) stack.add((int) ((long) x - y));
            if (op == 4) stack.add((int) ((long) x * y));
            if (op == 5) stack.add(x == y ? 1 : 0);
            if (op == 6) stack.add((long) x - y < 0 ? 1 : 0);
            if (op == 7) stack.add(x & y);
            if (op == 8) stack.add(x | y);
            if (op == 9) stack.add(y == 0 ? 1 : 0);
            if (op == 11) sets[k] = y;
            if (stack.size() > 8) return null;
        }
        return stack;
    }

    private static boolean leaves(int n, List<Integer> words, boolean maySet) {
        List<Integer> left = run(words, maySet, List.of(0, 0, 0, 0, 0, 0), new Integer[6]);
        return left != null && left.size() == n;
    }

    private static boolean ruleIsRight(List<Integer> rule) {
        List<List<Integer>> halves = split(rule, 10);
        return halves.size() == 2 && leaves(1, halves.get(0), false) && leaves(0, halves.get(1), true);
    }

    private boolean invariantIsRight() {
        for (List<Integer> part : split(invariant, 12)) {
            if (!leaves(1, part, false)) return false;
        }
        return true;
    }

    private static List<Integer> exchange(List<Integer> words, int a, int b) {
        List<Integer> out = new ArrayList<>();
        for (int w : words) {
            boolean named = (w & 255) == 1 || (w & 255) == 11;
            int k = w >> 8;
            out.add(named && k == a ? w + (b - a) * 256 : named && k == b ? w + (a - b) * 256 : w);
        }
        return out;
    }

    private boolean blocksAreRight() {
        List<List<Integer>> parts = split(invariant, 12);
        for (int a = 0; a < 6; a++) {
            for (int b = 0; b < 6; b++) {
                if (a == b || blocks[a] == 0 || blocks[a] != blocks[b]) continue;
                for (List<Integer> rule : rules) if (!rules.contains(exchange(rule, a, b))) return false;
                for (List<Integer> part : parts) if (!parts.contains(exchange(part, a, b))) return false;
            }
        }
        return true;
    }

    private static List<Integer> listOf(int[] state) {
        List<Integer> out = new ArrayList<>();
        for (int x : state) out.add(x);
        return out;
    }

    private List<Integer> standard(List<Integer> state) {
        Integer[] out = state.toArray(new Integer[0]);
        for (int g = 1; g <= 3; g++) {
            List<Integer> values = new ArrayList<>();
            for (int v = 0; v < 6; v++) if (blocks[v] == g) values.add(state.get(v));
            values.sort(null);
            for (int v = 0; v < 6; v++) if (blocks[v] == g) out[v] = values.remove(0);
        }
        return Arrays.asList(out);
    }

    private boolean holds(List<Integer> state) {
        for (List<Integer> part : split(invariant, 12)) {
            if (run(part, false, state, null).get(0) == 0) return false;
        }
        return true;
    }

    /** The state after the rule; null if it may not fire. */
    private List<Integer> after(int rule, List<Integer> state) {
        List<List<Integer>> halves = split(rules.get(rule), 10);
        if (run(halves.get(0), false, state, null).get(0) == 0) return null;
        Integer[] sets = state.toArray(new Integer[0]);
        run(halves.get(1), true, state, sets);
        return Arrays.asList(sets);
    }

    private void store(List<Integer> state, List<Integer> parent) {
        if (parents.size() == LIMIT) {
            noRoom = true;
            return;
        }
        parents.put(state, parent);
        waiting.add(state);
        if (!holds(state)) breaking = state;
    }

    int seal() {
        if (sealed) return -2;
        for (List<Integer> rule : rules) if (!ruleIsRight(rule)) return 1;
        if (!invariantIsRight()) return 2;
        if (!blocksAreRight()) return 3;
        sealed = true;
        store(standard(listOf(first)), null);
        return 0;
    }

    int explore(int n) {
        if (!sealed) return -2;
        if (noRoom) return -5;
        for (int i = 0; i < n && breaking == null && !waiting.isEmpty(); i++) {
            List<Integer> state = waiting.peek();
            for (int r = 0; r < rules.size() && breaking == null; r++) {
                List<Integer> next = after(r, state);
                if (next == null || parents.containsKey(standard(next))) continue;
                store(standard(next), state);
                if (noRoom) return -5;
            }
            waiting.remove();
        }
        return breaking != null || waiting.isEmpty() ? 0 : 1;
    }

    int verdict() {
        return breaking != null ? 2 : sealed && waiting.isEmpty() ? 1 : 0;
    }

    int stateCount() {
        return parents.size();
    }

    private List<List<Integer>> way() {
        List<List<Integer>> way = new ArrayList<>();
        for (List<Integer> s = breaking; s != null; s = parents.get(s)) way.add(0, s);
        return way;
    }

    /** The rules of the first n steps; the state after them is put into 'end'. */
    private List<Integer> follow(int n, int[] end) {
        List<List<Integer>> way = way();
        List<Integer> state = listOf(first);
        List<Integer> fired = new ArrayList<>();
        for (int i = 1; i <= n; i++) {
            int r = 0;
            while (after(r, state) == null || !standard(after(r, state)).equals(way.get(i))) r++;
            state = after(r, state);
            fired.add(r);
        }
        for (int v = 0; v < 6; v++) end[v] = state.get(v);
        return fired;
    }

    int traceLen() {
        return breaking == null ? -1 : way().size() - 1;
    }

    int traceRule(int i) {
        return breaking == null || i < 0 || i >= traceLen() ? -1 : follow(i + 1, new int[6]).get(i);
    }

    int traceVar(int i, int v) {
        if (breaking == null || i < 0 || i > traceLen() || v < 0 || v > 5) return 0;
        int[] end = new int[6];
        follow(i, end);
        return end[v];
    }

    int replay() {
        if (breaking == null) return 0;
        int[] end = new int[6];
        follow(traceLen(), end);
        return holds(listOf(end)) ? 0 : 1;
    }

    int probeVar(int v, int x) {
        if (v < 0 || v > 5) return -1;
        asked[v] = x;
        return 0;
    }

    int isReachable() {
        return verdict() != 1 ? -6 : parents.containsKey(standard(listOf(asked))) ? 1 : 0;
    }

    /** The length of a shortest run that breaks the invariant, with every state told apart; -1 if 'most' states don't show it. */
    int shortestRun(int most) {
        List<List<Integer>> layer = List.of(listOf(first));
        Set<List<Integer>> seen = new HashSet<>(layer);
        for (int steps = 0; !layer.isEmpty() && seen.size() <= most; steps++) {
            List<List<Integer>> next = new ArrayList<>();
            for (List<Integer> state : layer) {
                if (!holds(state)) return steps;
                for (int r = 0; r < rules.size(); r++) {
                    List<Integer> to = after(r, state);
                    if (to != null && seen.add(to)) next.add(to);
                }
            }
            layer = next;
        }
        return -1;
    }
}
