import java.util.Arrays;

/** A checker of small protocols; README.md tells how to use it. */
public final class ProtoCheck {
    private static final int VARIABLES = 6;
    private static final int MOST_RULES = 12;
    private static final int MOST_WORDS = 32;
    private static final int MOST_VALUES = 8;
    private static final int MOST_STATES = 400;
    private static final int HIGHEST_BLOCK = 3;

    private static final int CONST = 0;
    private static final int VAR = 1;
    private static final int PLUS = 2;
    private static final int MINUS = 3;
    private static final int TIMES = 4;
    private static final int EQUAL = 5;
    private static final int LESS = 6;
    private static final int AND = 7;
    private static final int OR = 8;
    private static final int NOT = 9;
    private static final int THEN = 10;
    private static final int SET = 11;
    private static final int ALSO = 12;

    private static final int DONE = 0;
    private static final int NOT_ALLOWED = -1;
    private static final int WRONG_TIME = -2;
    private static final int FULL = -3;
    private static final int NO_RULE = -4;
    private static final int NO_ROOM = -5;
    private static final int NOT_KNOWN = -6;

    private static final int NONE = -1;

    private final int[] first;
    private final int[] asked;
    private final Blocks blocks;
    private final Rules rules;
    private final Invariant invariant;
    private final Machine machine;
    private final StateStore store;
    private final Trace trace;

    // Rows used again by every call, so that no call makes new ones.
    private final int[] before;
    private final int[] after;
    private final int[] form;

    private boolean sealed;
    private boolean violated;
    private boolean outOfRoom;
    private int expanded;

    public ProtoCheck() {
        first = new int[VARIABLES];
        asked = new int[VARIABLES];
        blocks = new Blocks();
        rules = new Rules();
        invariant = new Invariant();
        machine = new Machine();
        store = new StateStore();
        trace = new Trace();
        before = new int[VARIABLES];
        after = new int[VARIABLES];
        form = new int[VARIABLES];
        init();
    }

    public void init() {
        Arrays.fill(first, 0);
        Arrays.fill(asked, 0);
        blocks.clear();
        rules.clear();
        invariant.row.clear();
        store.clear();
        trace.clear();
        sealed = false;
        violated = false;
        outOfRoom = false;
        expanded = 0;
    }

    public int setInit(int v, int x) {
        if (!isVariable(v)) {
            return NOT_ALLOWED;
        }
        if (sealed) {
            return WRONG_TIME;
        }
        first[v] = x;
        return DONE;
    }

    public int setSymGroup(int v, int g) {
        if (!isVariable(v) || g < 0 || g > HIGHEST_BLOCK) {
            return NOT_ALLOWED;
        }
        if (sealed) {
            return WRONG_TIME;
        }
        blocks.put(v, g);
        return DONE;
    }

    public int beginRule() {
        if (sealed) {
            return WRONG_TIME;
        }
        return rules.isFull() ? FULL : rules.begin();
    }

    public int feedRule(int w) {
        if (sealed) {
            return WRONG_TIME;
        }
        if (rules.count() == 0) {
            return NO_RULE;
        }
        return feed(rules.at(rules.count() - 1), w);
    }

    public int feedInvariant(int w) {
        if (sealed) {
            return WRONG_TIME;
        }
        return feed(invariant.row, w);
    }

    public int seal() {
        if (sealed) {
            return WRONG_TIME;
        }
        if (!rules.areRight()) {
            return 1;
        }
        if (!invariant.isRight()) {
            return 2;
        }
        if (!blocksAreRight()) {
            return 3;
        }
        sealed = true;
        copyState(first, form);
        blocks.toStandardForm(form);
        storeForm(NONE);
        if (violated) {
            layTrace();
        }
        return DONE;
    }

    public int explore(int n) {
        if (!sealed) {
            return WRONG_TIME;
        }
        if (outOfRoom) {
            return NO_ROOM;
        }
        boolean wasViolated = violated;
        int most = Math.min(n, MOST_STATES);
        for (int i = 0; i < most && !violated && !outOfRoom && !allExpanded(); i++) {
            expandNext();
        }
        if (violated && !wasViolated) {
            layTrace();
        }
        if (outOfRoom) {
            return NO_ROOM;
        }
        return violated || allExpanded() ? 0 : 1;
    }

    public int verdict() {
        if (violated) {
            return 2;
        }
        return sealed && allExpanded() ? 1 : 0;
    }

    public int stateCount() {
        return store.count();
    }

    public int traceLen() {
        return violated ? trace.steps() : NONE;
    }

    public int traceRule(int i) {
        return violated ? trace.ruleAt(i) : NONE;
    }

    public int traceVar(int i, int v) {
        if (!violated || !trace.hasState(i) || !isVariable(v)) {
            return 0;
        }
        trace.copyOut(i, before);
        return before[v];
    }

    public int replay() {
        if (!violated) {
            return 0;
        }
        trace.copyOut(trace.steps(), before);
        return machine.holds(invariant, before) ? 0 : 1;
    }

    public int probeVar(int v, int x) {
        if (!isVariable(v)) {
            return NOT_ALLOWED;
        }
        asked[v] = x;
        return DONE;
    }

    public int isReachable() {
        if (verdict() != 1) {
            return NOT_KNOWN;
        }
        copyState(asked, form);
        blocks.toStandardForm(form);
        return store.find(form) == NONE ? 0 : 1;
    }

    private static boolean isVariable(int v) {
        return v >= 0 && v < VARIABLES;
    }

    private static void copyState(int[] from, int[] to) {
        System.arraycopy(from, 0, to, 0, VARIABLES);
    }

    private static int feed(WordRow row, int w) {
        if (!Word.isWord(w)) {
            return NOT_ALLOWED;
        }
        if (row.isFull()) {
            return FULL;
        }
        row.add(w);
        return DONE;
    }

    private boolean blocksAreRight() {
        for (int a = 0; a < VARIABLES; a++) {
            for (int b = a + 1; b < VARIABLES; b++) {
                if (blocks.join(a, b) && !(rules.bearExchange(a, b) && invariant.bearsExchange(a, b))) {
                    return false;
                }
            }
        }
        return true;
    }

    private boolean allExpanded() {
        return expanded >= store.count();
    }

    private void expandNext() {
        store.copyOut(expanded, before);
        for (int r = 0; r < rules.count(); r++) {
            if (fires(rules.at(r)) && store.find(form) == NONE) {
                storeForm(expanded);
            }
            if (violated || outOfRoom) {
                return;
            }
        }
        expanded++;
    }

    /** Leaves, if the rule may fire in 'before', the state after it in 'after' and its standard form in 'form'. */
    private boolean fires(WordRow rule) {
        if (!machine.mayFire(rule, before)) {
            return false;
        }
        machine.fire(rule, before, after);
        copyState(after, form);
        blocks.toStandardForm(form);
        return true;
    }

    private void storeForm(int parent) {
        if (store.isFull()) {
            outOfRoom = true;
            return;
        }
        store.add(form, parent);
        violated = !machine.holds(invariant, form);
    }

    /** The breaking state is the one stored last, since nothing is stored after it. */
    private void layTrace() {
        trace.begin(first, store);
        for (int i = 0; i < trace.steps(); i++) {
            trace.copyOut(i, before);
            boolean found = false;
            for (int r = 0; r < rules.count() && !found; r++) {
                found = fires(rules.at(r)) && store.find(form) == trace.wayAt(i + 1);
                if (found) {
                    trace.putStep(i, r, after);
                }
            }
        }
    }

    /** What can be said of one word alone. */
    private static final class Word {
        static int op(int w) {
            return w & 255;
        }

        static int operand(int w) {
            return w >> 8;
        }

        static boolean isWord(int w) {
            int op = op(w);
            if (op == CONST) {
                return true;
            }
            if (op == VAR || op == SET) {
                return isVariable(operand(w));
            }
            return op <= ALSO && operand(w) == 0;
        }

        static int exchanged(int w, int a, int b) {
            int op = op(w);
            int k = operand(w);
            if (op != VAR && op != SET || k != a && k != b) {
                return w;
            }
            return (k == a ? b : a) << 8 | op;
        }

        /** How many values are on a stack of that height after the word; NONE if the word does not fit there. */
        static int heightAfter(int height, int op, boolean maySet) {
            if (op == THEN || op == ALSO || op == SET && !maySet) {
                return NONE;
            }
            if (op == CONST || op == VAR) {
                return height < MOST_VALUES ? height + 1 : NONE;
            }
            if (op == NOT) {
                return height >= 1 ? height : NONE;
            }
            if (op == SET) {
                return height >= 1 ? height - 1 : NONE;
            }
            return height >= 2 ? height - 1 : NONE;
        }
    }

    /** The words of one rule or of the invariant. */
    private static final class WordRow {
        private final int[] words = new int[MOST_WORDS];
        private int length;

        void clear() {
            length = 0;
        }

        int length() {
            return length;
        }

        boolean isFull() {
            return length >= MOST_WORDS;
        }

        void add(int w) {
            if (length < MOST_WORDS) {
                words[length] = w;
                length++;
            }
        }

        int at(int i) {
            return i >= 0 && i < length ? words[i] : 0;
        }

        int opAt(int i) {
            return Word.op(at(i));
        }

        /** The place of the first word with that op from there on; the length if there is none. */
        int next(int op, int from) {
            for (int i = from; i < length; i++) {
                if (Word.op(at(i)) == op) {
                    return i;
                }
            }
            return length;
        }

        /** Whether exchanging a and b in n words from there on makes the other row's words from otherFrom on. */
        boolean turnsInto(int from, int n, WordRow other, int otherFrom, int a, int b) {
            for (int i = 0; i < n; i++) {
                if (Word.exchanged(at(from + i), a, b) != other.at(otherFrom + i)) {
                    return false;
                }
            }
            return true;
        }
    }

    private static final class Rules {
        private final WordRow[] rows = new WordRow[MOST_RULES];
        // What at() gives for a number that is no rule: never null, and without words.
        private final WordRow nothing = new WordRow();
        private int count;

        Rules() {
            for (int r = 0; r < MOST_RULES; r++) {
                rows[r] = new WordRow();
            }
        }

        void clear() {
            count = 0;
        }

        int count() {
            return count;
        }

        boolean isFull() {
            return count >= MOST_RULES;
        }

        int begin() {
            if (count >= MOST_RULES) {
                return NONE;
            }
            rows[count].clear();
            count++;
            return count - 1;
        }

        WordRow at(int r) {
            return r >= 0 && r < count ? rows[r] : nothing;
        }

        boolean areRight() {
            for (int r = 0; r < count; r++) {
                if (!isRight(at(r))) {
                    return false;
                }
            }
            return true;
        }

        private static boolean isRight(WordRow rule) {
            boolean behindThen = false;
            int height = 0;
            for (int i = 0; i < rule.length(); i++) {
                if (rule.opAt(i) == THEN && !behindThen) {
                    if (height != 1) {
                        return false;
                    }
                    behindThen = true;
                    height = 0;
                } else {
                    height = Word.heightAfter(height, rule.opAt(i), behindThen);
                }
                if (height == NONE) {
                    return false;
                }
            }
            return behindThen && height == 0;
        }

        boolean bearExchange(int a, int b) {
            for (int r = 0; r < count; r++) {
                if (!hasExchanged(at(r), a, b)) {
                    return false;
                }
            }
            return true;
        }

        private boolean hasExchanged(WordRow rule, int a, int b) {
            for (int r = 0; r < count; r++) {
                WordRow other = at(r);
                if (other.length() == rule.length() && rule.turnsInto(0, rule.length(), other, 0, a, b)) {
                    return true;
                }
            }
            return false;
        }
    }

    private static final class Invariant {
        final WordRow row = new WordRow();

        boolean isRight() {
            int height = 0;
            for (int i = 0; i < row.length(); i++) {
                if (row.opAt(i) == ALSO) {
                    if (height != 1) {
                        return false;
                    }
                    height = 0;
                } else {
                    height = Word.heightAfter(height, row.opAt(i), false);
                }
                if (height == NONE) {
                    return false;
                }
            }
            return height == 1;
        }

        boolean isPartStart(int i) {
            return i == 0 || row.opAt(i - 1) == ALSO;
        }

        int partEnd(int start) {
            return row.next(ALSO, start);
        }

        boolean bearsExchange(int a, int b) {
            for (int i = 0; i < row.length(); i++) {
                if (isPartStart(i) && !hasExchanged(i, a, b)) {
                    return false;
                }
            }
            return true;
        }

        private boolean hasExchanged(int start, int a, int b) {
            int n = partEnd(start) - start;
            for (int i = 0; i < row.length(); i++) {
                if (isPartStart(i) && partEnd(i) - i == n && row.turnsInto(start, n, row, i, a, b)) {
                    return true;
                }
            }
            return false;
        }
    }

    private static final class Blocks {
        private final int[] numbers = new int[VARIABLES];

        void clear() {
            Arrays.fill(numbers, 0);
        }

        void put(int v, int g) {
            if (isVariable(v)) {
                numbers[v] = g;
            }
        }

        boolean join(int a, int b) {
            return isVariable(a) && isVariable(b) && numbers[a] != 0 && numbers[a] == numbers[b];
        }

        void toStandardForm(int[] state) {
            for (int a = 0; a < VARIABLES; a++) {
                for (int b = a + 1; b < VARIABLES; b++) {
                    if (join(a, b) && state[a] > state[b]) {
                        int x = state[a];
                        state[a] = state[b];
                        state[b] = x;
                    }
                }
            }
        }
    }

    /** Runs words; only those that have been found right come here. */
    private static final class Machine {
        private final int[] stack = new int[MOST_VALUES];
        private int height;

        boolean mayFire(WordRow rule, int[] state) {
            // A condition has no SET, so the state stays as it is.
            return run(rule, 0, rule.next(THEN, 0), state, state) != 0;
        }

        void fire(WordRow rule, int[] before, int[] after) {
            copyState(before, after);
            run(rule, rule.next(THEN, 0) + 1, rule.length(), before, after);
        }

        boolean holds(Invariant invariant, int[] state) {
            WordRow row = invariant.row;
            for (int i = 0; i < row.length(); i++) {
                if (invariant.isPartStart(i) && run(row, i, invariant.partEnd(i), state, state) == 0) {
                    return false;
                }
            }
            return true;
        }

        /** The value left on the stack; 0 if none is. */
        private int run(WordRow row, int from, int to, int[] before, int[] after) {
            height = 0;
            for (int i = from; i < to; i++) {
                step(row.at(i), before, after);
            }
            return pop();
        }

        private void step(int w, int[] before, int[] after) {
            int op = Word.op(w);
            int k = Word.operand(w);
            if (op == CONST) {
                push(k);
            } else if (op == VAR) {
                push(isVariable(k) ? before[k] : 0);
            } else if (op == NOT) {
                push(pop() == 0 ? 1 : 0);
            } else if (op == SET) {
                int x = pop();
                if (isVariable(k)) {
                    after[k] = x;
                }
            } else {
                int y = pop();
                int x = pop();
                push(joined(op, x, y));
            }
        }

        private static int joined(int op, int x, int y) {
            switch (op) {
                case PLUS:
                    return x + y;
                case MINUS:
                    return x - y;
                case TIMES:
                    return x * y;
                case EQUAL:
                    return x == y ? 1 : 0;
                case LESS:
                    return x < y ? 1 : 0;
                case AND:
                    return x & y;
                case OR:
                    return x | y;
                default:
                    return 0;
            }
        }

        private void push(int x) {
            if (height >= 0 && height < MOST_VALUES) {
                stack[height] = x;
                height++;
            }
        }

        private int pop() {
            if (height < 1 || height > MOST_VALUES) {
                return 0;
            }
            height--;
            return stack[height];
        }
    }

    /** The stored states by number, and chains of numbers that end in the same bucket, to find a state soon. */
    private static final class StateStore {
        private static final int BUCKETS = 512;

        private final int[] values = new int[MOST_STATES * VARIABLES];
        private final int[] parents = new int[MOST_STATES];
        private final int[] newest = new int[BUCKETS];
        private final int[] older = new int[MOST_STATES];
        private int count;

        void clear() {
            count = 0;
            Arrays.fill(newest, NONE);
        }

        int count() {
            return count;
        }

        boolean isFull() {
            return count >= MOST_STATES;
        }

        private boolean has(int s) {
            return s >= 0 && s < count;
        }

        int parentOf(int s) {
            return has(s) ? parents[s] : NONE;
        }

        void copyOut(int s, int[] to) {
            if (has(s)) {
                System.arraycopy(values, s * VARIABLES, to, 0, VARIABLES);
            }
        }

        void add(int[] state, int parent) {
            if (count >= MOST_STATES) {
                return;
            }
            int bucket = bucketOf(state);
            System.arraycopy(state, 0, values, count * VARIABLES, VARIABLES);
            parents[count] = parent;
            older[count] = newest[bucket];
            newest[bucket] = count;
            count++;
        }

        int find(int[] state) {
            int s = newest[bucketOf(state)];
            for (int i = 0; i < MOST_STATES && has(s); i++) {
                if (isState(s, state)) {
                    return s;
                }
                s = older[s];
            }
            return NONE;
        }

        private boolean isState(int s, int[] state) {
            for (int v = 0; v < VARIABLES; v++) {
                if (values[s * VARIABLES + v] != state[v]) {
                    return false;
                }
            }
            return true;
        }

        private static int bucketOf(int[] state) {
            int mix = 0;
            for (int v = 0; v < VARIABLES; v++) {
                mix = mix * 31 + state[v];
            }
            return (mix ^ mix >>> 9 ^ mix >>> 18) & BUCKETS - 1;
        }
    }

    /** The counterexample: the way it follows, and the rule and the state of each of its steps. */
    private static final class Trace {
        private final int[] way = new int[MOST_STATES];
        private final int[] fired = new int[MOST_STATES];
        private final int[] values = new int[MOST_STATES * VARIABLES];
        private int steps;

        void clear() {
            steps = 0;
        }

        int steps() {
            return steps;
        }

        boolean hasState(int i) {
            return i >= 0 && i <= steps && i < MOST_STATES;
        }

        void begin(int[] first, StateStore store) {
            int breaking = store.count() - 1;
            steps = stepsTo(breaking, store);
            int s = breaking;
            for (int i = steps; i >= 0; i--) {
                way[i] = s;
                s = store.parentOf(s);
            }
            System.arraycopy(first, 0, values, 0, VARIABLES);
        }

        private static int stepsTo(int state, StateStore store) {
            int s = state;
            int n = 0;
            while (n < MOST_STATES - 1 && store.parentOf(s) != NONE) {
                s = store.parentOf(s);
                n++;
            }
            return n;
        }

        int wayAt(int i) {
            return hasState(i) ? way[i] : NONE;
        }

        int ruleAt(int i) {
            return i >= 0 && i < steps ? fired[i] : NONE;
        }

        void copyOut(int i, int[] to) {
            if (hasState(i)) {
                System.arraycopy(values, i * VARIABLES, to, 0, VARIABLES);
            }
        }

        void putStep(int i, int rule, int[] after) {
            if (i >= 0 && hasState(i + 1)) {
                fired[i] = rule;
                System.arraycopy(after, 0, values, (i + 1) * VARIABLES, VARIABLES);
            }
        }
    }
}
