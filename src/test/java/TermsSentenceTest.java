import java.io.IOException;
import java.util.ArrayList;
import java.util.LinkedHashMap;
import java.util.List;
import java.util.Map;
import java.util.TreeSet;
import java.util.function.Supplier;
import java.util.function.ToIntFunction;

/** One test, or more, for each sentence of the section 'Terms', at the edges that the sentence names. */
public final class TermsSentenceTest extends Fixture {
    private TermsSentenceTest() {
    }

    public static void main(String[] args) throws IOException, IllegalAccessException {
        Sentences.run(TermsSentenceTest.class, "Terms");
    }

    // States and words

    /** Two variables, each of which may become 1. Not sealed. */
    private static ProtoCheck switches(int... blocks) {
        ProtoCheck x = withBlocks(blocks);
        rule(x, var(0), NOT, THEN, num(1), set(0));
        rule(x, var(1), NOT, THEN, num(1), set(1));
        invariant(x, num(1));
        return x;
    }

    private static int switchStates(int... blocks) {
        return explored(sealed(switches(blocks)), 9, 0).stateCount();
    }

    @Sentence(in = "Terms", says = "Variables may be declared interchangeable; then of all states that differ "
        + "only by exchanging them one is stored.")
    static void oneOfInterchangeableStatesIsStored() {
        due("not interchangeable", switchStates(), 4);
        due("interchangeable", switchStates(1, 1), 3);
    }

    @Sentence(in = "Terms", says = "A STATE is six ints, VARIABLES 0 .. 5.")
    static void variablesAreZeroToFive() {
        ProtoCheck x = withInvariant(num(0));
        due("variable 0", x.setInit(0, MIN), 0);
        due("variable 5", x.setInit(5, MAX), 0);
        due("block of variable 0", x.setSymGroup(0, 1), 0);
        due("block of variable 5", x.setSymGroup(5, 2), 0);
        due("asked about variable 0", x.probeVar(0, 1), 0);
        due("asked about variable 5", x.probeVar(5, 1), 0);
        for (int v : NO_VARIABLES) {
            due("setInit(" + v + ")", x.setInit(v, 7), -1);
            due("setSymGroup(" + v + ")", x.setSymGroup(v, 1), -1);
            due("probeVar(" + v + ")", x.probeVar(v, 7), -1);
        }
        sealed(x);
        dueState("ints", x, 0, MIN, 0, 0, 0, 0, MAX);
        for (int v : NO_VARIABLES) {
            due("traceVar(0, " + v + ")", x.traceVar(0, v), 0);
        }
    }

    @Sentence(in = "Terms", says = "WORDS: op = w & 255, k = w >> 8 (signed).")
    static void operandIsSigned() {
        due("w = -256", value(row(), -256), -1);
        due("w = 0x7fffff00", value(row(), 0x7fffff00), 8388607);
        due("w = 0x80000000", value(row(), 0x80000000), -8388608);
        ProtoCheck x = new ProtoCheck();
        x.beginRule();
        due("op 255, k -1", x.feedRule(-1), -1);
        due("op 1, k -1", x.feedRule(-255), -1);
        due("op 11, k 5", x.feedRule(0x50b), 0);
        due("op 11, k 256 + 5", x.feedRule(0x1050b), -1);
        due("op 2, k 65536", x.feedRule(0x1000002), -1);
    }

    @Sentence(in = "Terms", says = "They work on a stack of ints, empty at first:")
    static void stackIsEmptyAtFirst() {
        for (int op = 2; op <= 9; op++) {
            due("op " + op + " first in a condition", sealRule(op, num(1), THEN), 1);
            due("op " + op + " first behind THEN", sealRule(num(1), THEN, op, set(0)), 1);
            due("op " + op + " first in the invariant", sealInvariant(op), 2);
        }
        // A condition, what is behind THEN and a part fill the stack each; nothing may be left over for the next one.
        ProtoCheck x = withInvariant(joined(sumOfPowers(), row(num(255), EQUAL)));
        rule(x, joined(sumOfPowers(), row(num(255), EQUAL, THEN, var(0), num(1), PLUS, set(0))));
        explored(sealed(x), 50, 1);
        due("50 states expanded", x.stateCount(), 51);
    }

    @Sentence(in = "Terms", says = "0 CONST pushes k")
    static void constPushesAnyNumber() {
        int[] numbers = {0, 1, -1, 255, 256, -256, 65536, 8388607, -8388608};
        for (int k : numbers) {
            due("CONST " + k, value(row(), num(k)), k);
        }
    }

    @Sentence(in = "Terms", says = "1 VAR pushes variable k (0 .. 5)")
    static void varHasOneOfSixOperands() {
        int[] first = {MIN, 11, 12, -13, 14, MAX};
        for (int v = 0; v < 6; v++) {
            int copy = (v + 1) % 6;
            ProtoCheck x = withInvariant(var(v), var(copy), EQUAL, NOT);
            setInit(x, first);
            rule(x, num(1), THEN, var(v), set(copy));
            explored(sealed(x), 1, 0);
            due("VAR " + v, x.traceVar(1, copy), first[v]);
        }
        dueNoWordWithOperands(1);
    }

    private static void dueNoWordWithOperands(int op) {
        ProtoCheck x = new ProtoCheck();
        x.beginRule();
        int[] operands = {-1, 6, 7, 255, 256, 261, 8388607, -8388608};
        for (int k : operands) {
            due("op " + op + " with k " + k + " in a rule", x.feedRule(k << 8 | op), -1);
            due("op " + op + " with k " + k + " in the invariant", x.feedInvariant(k << 8 | op), -1);
        }
    }

    private static int join(int x, int op, int y) {
        return value(row(x, y), var(0), var(1), op);
    }

    @Sentence(in = "Terms", says = "for 2 to 8, y is taken from the top, then x, and pushed is:")
    static void upperValueIsTheSecond() {
        due("5 3 -", join(5, MINUS, 3), 2);
        due("3 5 -", join(3, MINUS, 5), -2);
        due("3 5 <", join(3, LESS, 5), 1);
        due("5 3 <", join(5, LESS, 3), 0);
        due("the lower ones stay", value(row(), num(100), num(5), num(3), MINUS, MINUS), 98);
    }

    @Sentence(in = "Terms", says = "2 x + y")
    static void sumWrapsAround() {
        due("the largest and 1", join(MAX, PLUS, 1), MIN);
        due("the smallest and -1", join(MIN, PLUS, -1), MAX);
        due("the smallest twice", join(MIN, PLUS, MIN), 0);
        due("the largest and the smallest", join(MAX, PLUS, MIN), -1);
    }

    @Sentence(in = "Terms", says = "3 x - y")
    static void differenceWrapsAround() {
        due("the smallest less 1", join(MIN, MINUS, 1), MAX);
        due("the largest less -1", join(MAX, MINUS, -1), MIN);
        due("0 less the smallest", join(0, MINUS, MIN), MIN);
    }

    @Sentence(in = "Terms", says = "4 x * y (32 bits, wrapping)")
    static void productWrapsAround() {
        due("2^16 times 2^16", join(65536, TIMES, 65536), 0);
        due("2^16 times 2^15", join(65536, TIMES, 32768), MIN);
        due("the largest twice", join(MAX, TIMES, MAX), 1);
        due("the smallest times -1", join(MIN, TIMES, -1), MIN);
        due("the largest times 2", join(MAX, TIMES, 2), -2);
        due("46341 times 46341", join(46341, TIMES, 46341), -2147479015);
    }

    @Sentence(in = "Terms", says = "5 x == y ? 1 : 0")
    static void equalIsOneOrZero() {
        due("equal", join(7, EQUAL, 7), 1);
        due("one more", join(7, EQUAL, 8), 0);
        due("one less", join(7, EQUAL, 6), 0);
        due("the smallest and the largest", join(MIN, EQUAL, MAX), 0);
        due("the smallest twice", join(MIN, EQUAL, MIN), 1);
        due("alike in 31 bits", join(0, EQUAL, MIN), 0);
        due("alike in 16 bits", join(1, EQUAL, 65537), 0);
    }

    @Sentence(in = "Terms", says = "6 x < y ? 1 : 0")
    static void lessIsOneOrZero() {
        due("equal", join(7, LESS, 7), 0);
        due("one more", join(7, LESS, 8), 1);
        due("one less", join(7, LESS, 6), 0);
        due("no wrap-around", join(MIN, LESS, MAX), 1);
        due("no wrap-around the other way", join(MAX, LESS, MIN), 0);
        due("signed", join(-1, LESS, 0), 1);
        due("the smallest and 0", join(MIN, LESS, 0), 1);
    }

    @Sentence(in = "Terms", says = "7 x & y")
    static void andIsBitByBit() {
        due("no bit in common", join(1, AND, 2), 0);
        due("some bits", join(12, AND, 10), 8);
        due("all bits", join(-1, AND, MIN), MIN);
        due("the sign", join(MIN, AND, MAX), 0);
    }

    @Sentence(in = "Terms", says = "8 x | y (bit by bit)")
    static void orIsBitByBit() {
        due("no bit", join(0, OR, 0), 0);
        due("some bits", join(12, OR, 10), 14);
        due("the same bit", join(4, OR, 4), 4);
        due("the sign", join(MIN, OR, MAX), -1);
    }

    @Sentence(in = "Terms", says = "9 takes x, pushes 1 if it is 0, else 0")
    static void notOfZeroIsOne() {
        due("not 0", value(row(), num(0), NOT), 1);
        int[] others = {1, -1, 2, 256, 65536, MIN, MAX};
        for (int x : others) {
            due("not " + x, value(row(x), var(0), NOT), 0);
        }
    }

    @Sentence(in = "Terms", says = "10 THEN")
    static void thenIsAWord() {
        due("in a rule", sealRule(num(1), 10), 0);
        ProtoCheck x = new ProtoCheck();
        due("for the invariant it is a word too", x.feedInvariant(10), 0);
        due("but nothing right", x.seal(), 2);
    }

    @Sentence(in = "Terms", says = "11 SET takes a value for variable k (0 .. 5)")
    static void setHasOneOfSixOperands() {
        for (int v = 0; v < 6; v++) {
            ProtoCheck x = withInvariant(never(v, 77));
            rule(x, num(1), THEN, num(77), set(v));
            explored(sealed(x), 1, 0);
            int[] want = new int[6];
            want[v] = 77;
            dueState("SET " + v, x, 1, want);
        }
        dueNoWordWithOperands(11);
        due("without a value", sealRule(num(1), THEN, set(0)), 1);
        due("one value is taken, not two", sealRule(num(1), THEN, num(1), set(0), set(0)), 1);
    }

    @Sentence(in = "Terms", says = "12 ALSO")
    static void alsoIsAWord() {
        due("in the invariant", sealInvariant(num(1), 12, num(1)), 0);
        ProtoCheck x = withInvariant(num(1));
        x.beginRule();
        due("for a rule it is a word too", x.feedRule(12), 0);
        due("but nothing right", x.seal(), 1);
    }

    @Sentence(in = "Terms", says = "For 2 to 10 and 12, k is 0.")
    static void otherWordsHaveOperandZero() {
        int[] ops = {2, 3, 4, 5, 6, 7, 8, 9, 10, 12};
        int[] operands = {1, -1, 5, 256, 8388607, -8388608};
        ProtoCheck x = new ProtoCheck();
        x.beginRule();
        for (int op : ops) {
            due("feedRule(" + op + ")", x.feedRule(op), 0);
            due("feedInvariant(" + op + ")", x.feedInvariant(op), 0);
            for (int k : operands) {
                due("op " + op + " with k " + k + " in a rule", x.feedRule(k << 8 | op), -1);
                due("op " + op + " with k " + k + " in the invariant", x.feedInvariant(k << 8 | op), -1);
            }
        }
    }

    @Sentence(in = "Terms", says = "An int that is not one of these is no word.")
    static void otherOpsAreNoWords() {
        int[] operands = {0, 1, -1, 8388607, -8388608};
        for (int k : operands) {
            ProtoCheck x = new ProtoCheck();
            x.beginRule();
            for (int op = 13; op <= 255; op++) {
                due("op " + op + " with k " + k + " in a rule", x.feedRule(k << 8 | op), -1);
                due("op " + op + " with k " + k + " in the invariant", x.feedInvariant(k << 8 | op), -1);
            }
        }
    }

    // Rules

    @Sentence(in = "Terms", says = "RULES 0 .. 11, of at most 32 words.")
    static void twelveRulesOf32Words() {
        ProtoCheck x = new ProtoCheck();
        for (int r = 0; r < 12; r++) {
            due("beginRule()", x.beginRule(), r);
            int[] head = {var(0), num(r), EQUAL, THEN};
            for (int i = 0; i < 32; i++) {
                int last = i % 2 == 0 ? num(i == 30 ? r + 1 : -1) : set(0);
                due("word " + i + " of rule " + r, x.feedRule(i < 4 ? head[i] : last), 0);
            }
            due("word 32 of rule " + r, x.feedRule(NOT), -3);
        }
        due("a 13th rule", x.beginRule(), -3);
        invariant(x, never(0, 12));
        explored(sealed(x), 400, 0);
        due("each rule fired with its last words", x.traceLen(), 12);
        for (int r = 0; r < 12; r++) {
            due("traceRule(" + r + ")", x.traceRule(r), r);
        }
    }

    @Sentence(in = "Terms", says = "A rule is RIGHT if it is: words 0 to 9 that leave exactly one value, its condition;")
    static void conditionLeavesOneValue() {
        due("no words at all", sealRule(), 1);
        due("no value", sealRule(THEN), 1);
        due("one value", sealRule(num(1), THEN), 0);
        due("two values", sealRule(num(1), num(1), THEN), 1);
        due("eight values", sealRule(joined(sumOf(8), row(num(1), THEN))), 1);
        due("word 9", sealRule(num(1), NOT, THEN), 0);
        due("word 10 is the end of it", sealRule(num(1), THEN, num(1), THEN), 1);
        due("word 11", sealRule(num(1), num(1), set(0), THEN), 1);
        due("word 12", sealRule(num(1), ALSO, num(1), THEN), 1);
        due("word 12 at the end", sealRule(num(1), ALSO, THEN), 1);
        due("word 12 behind two values", sealRule(num(1), num(1), ALSO, THEN), 1);
    }

    @Sentence(in = "Terms", says = "one THEN;")
    static void ruleHasOneThen() {
        due("none", sealRule(num(1)), 1);
        due("none, nothing left", sealRule(num(1), set(0)), 1);
        due("one", sealRule(num(1), THEN), 0);
        due("two side by side", sealRule(num(1), THEN, THEN), 1);
        due("a second at the end", sealRule(num(1), THEN, num(2), set(0), THEN), 1);
        due("a second behind a value", sealRule(num(1), THEN, num(2), THEN, num(2), set(0)), 1);
        due("a second behind a value at the end", sealRule(num(1), THEN, num(2), THEN), 1);
        due("a second behind two values", sealRule(num(1), THEN, num(2), num(3), THEN, set(0)), 1);
    }

    @Sentence(in = "Terms", says = "words 0 to 9 and 11 that leave nothing;")
    static void otherHalfLeavesNothing() {
        due("no words", sealRule(num(1), THEN), 0);
        due("one value left", sealRule(num(1), THEN, num(1)), 1);
        due("one of two left", sealRule(num(1), THEN, num(1), num(1), set(0)), 1);
        due("two taken", sealRule(num(1), THEN, num(1), num(1), set(0), set(5)), 0);
        due("word 9", sealRule(num(1), THEN, num(1), NOT, set(0)), 0);
        due("word 12", sealRule(num(1), THEN, ALSO), 1);
        due("word 12 behind a value", sealRule(num(1), THEN, num(1), ALSO), 1);
        due("word 12 behind two values", sealRule(num(1), THEN, num(1), num(2), ALSO, set(0)), 1);
    }

    @Sentence(in = "Terms", says = "and in each half the stack never has more than 8 values,")
    static void stackHasAtMostEightValues() {
        due("8 in the condition", sealRule(joined(sumOf(8), row(THEN))), 0);
        due("9 in the condition", sealRule(joined(sumOf(9), row(THEN))), 1);
        due("9 in the condition with VAR", sealRule(joined(row(num(1), var(0)), sumOf(7), row(PLUS, PLUS, THEN))), 1);
        int[] nine = {num(1), num(1), num(1), num(1), num(1), num(1), num(1), num(1), num(1)};
        due("9 and two more in the condition", sealRule(joined(nine, row(num(1), num(1), THEN))), 1);
        due("9 and one more in the other half", sealRule(joined(row(num(1), THEN), nine, row(num(1)))), 1);
        due("8 in the other half", sealRule(joined(row(num(1), THEN), sumOf(8), row(set(0)))), 0);
        due("9 in the other half", sealRule(joined(row(num(1), THEN), sumOf(9), row(set(0)))), 1);
        due("8 in each half", sealRule(joined(sumOf(8), row(THEN, num(1), set(5)), sumOf(6), row(set(0)))), 0);
        due("8 again and again", sealRule(joined(row(num(1), THEN), sumOf(8), sumOf(7), row(set(0)))), 1);
        due("8 twice in one half", sealRule(joined(sumOf(8), sumOf(7), row(PLUS, THEN))), 0);
        due("8 set one by one", sealRule(num(1), THEN, num(1), num(2), num(3), num(4), num(5), num(6), num(7), num(8),
            set(0), set(1), set(2), set(3), set(4), set(5), set(0), set(1)), 0);
        due("8 values are told apart", value(row(), sumOfPowers()), 255);
    }

    @Sentence(in = "Terms", says = "nor one too few for a word.")
    static void stackHasEnoughForEachWord() {
        for (int op = 2; op <= 8; op++) {
            due("op " + op + " with 0", sealRule(op, THEN), 1);
            due("op " + op + " with 1", sealRule(num(1), op, THEN), 1);
            due("op " + op + " with 2", sealRule(num(1), num(1), op, THEN), 0);
            due("op " + op + " with 1, then one more", sealRule(num(1), op, num(1), THEN), 1);
            due("op " + op + " with 0, then two more", sealRule(op, num(1), num(1), THEN), 1);
            due("op " + op + " with 0 behind THEN", sealRule(num(1), THEN, op), 1);
            due("op " + op + " with 1 behind THEN", sealRule(num(1), THEN, num(1), op, set(0)), 1);
            due("op " + op + " with 2 behind THEN", sealRule(num(1), THEN, num(1), num(1), op, set(0)), 0);
        }
        due("op 9 with 0", sealRule(NOT, THEN), 1);
        due("op 9 with 0, then one more", sealRule(NOT, num(1), THEN), 1);
        due("op 9 with 1", sealRule(num(1), NOT, THEN), 0);
        due("op 9 with 0 behind THEN", sealRule(num(1), THEN, NOT), 1);
        due("SET with 0", sealRule(num(1), THEN, set(0)), 1);
        due("SET with 1", sealRule(num(1), THEN, num(1), set(0)), 0);
        due("SET with 0 after one with 1", sealRule(num(1), THEN, num(1), set(0), set(1)), 1);
        due("SET with 0, then a value", sealRule(num(1), THEN, set(0), num(1)), 1);
        due("SET with 0, then with 1", sealRule(num(1), THEN, set(0), num(1), set(0)), 1);
    }

    @Sentence(in = "Terms", says = "A rule MAY FIRE in a state in which its condition is not 0.")
    static void anyConditionButZeroFires() {
        int[] conditions = {0, 1, -1, 2, 256, 65536, MIN, MAX};
        for (int c : conditions) {
            ProtoCheck x = withInvariant(num(1));
            setInit(x, c);
            rule(x, var(0), THEN, num(0), set(0));
            explored(sealed(x), 9, 0);
            due("condition " + c, x.stateCount(), c == 0 ? 1 : 2);
        }
    }

    @Sentence(in = "Terms", says = "VAR always means the state before;")
    static void varIsTheStateBefore() {
        ProtoCheck x = withInvariant(never(2, 1));
        setInit(x, 10, 20);
        rule(x, num(1), THEN, var(1), set(0), var(0), set(1), num(1), set(2), var(2), set(3), var(0), set(4));
        explored(sealed(x), 1, 0);
        dueState("changed places", x, 1, 20, 10, 1, 0, 10, 0);
    }

    @Sentence(in = "Terms", says = "the values taken by SET (the last one for a variable counts)")
    static void lastSetCounts() {
        ProtoCheck x = withInvariant(never(0, 3));
        rule(x, num(1), THEN, num(9), set(0), num(1), set(1), num(5), num(3), set(0), set(1));
        explored(sealed(x), 1, 0);
        dueState("the last ones", x, 1, 3, 5);
        x = withInvariant(num(1));
        setInit(x, 7);
        rule(x, num(1), THEN, num(9), set(0), var(0), set(0));
        explored(sealed(x), 1, 0);
        due("the last one sets it back", x.stateCount(), 1);
    }

    @Sentence(in = "Terms", says = "and the other variables as they were are the state AFTER it.")
    static void otherVariablesStay() {
        ProtoCheck x = withInvariant(num(1));
        setInit(x, 1, 2, 3, 4, 5, 6);
        rule(x, num(1), THEN);
        explored(sealed(x), 1, 0);
        due("a rule without SET makes no new state", x.stateCount(), 1);
        x = withInvariant(never(3, 0));
        setInit(x, 1, 2, 3, 4, MIN, MAX);
        rule(x, num(1), THEN, num(0), set(3));
        explored(sealed(x), 1, 0);
        dueState("five stay", x, 1, 1, 2, 3, 0, MIN, MAX);
    }

    // The invariant

    @Sentence(in = "Terms", says = "The INVARIANT, of at most 32 words,")
    static void invariantHas32Words() {
        for (int words = 31; words <= 32; words++) {
            ProtoCheck x = withInvariant(num(0));
            for (int i = 1; i < words; i++) {
                due("word " + i, x.feedInvariant(NOT), 0);
            }
            if (words == 32) {
                due("a 33rd word", x.feedInvariant(NOT), -3);
            }
            due("the last of " + words + " words counts", sealed(x).verdict(), words == 31 ? 2 : 0);
        }
    }

    @Sentence(in = "Terms", says = "is RIGHT if it is one or more PARTS with ALSO between them,")
    static void invariantHasParts() {
        due("no words", sealInvariant(), 2);
        due("one part", sealInvariant(num(1)), 0);
        due("two parts", sealInvariant(num(1), ALSO, num(1)), 0);
        due("ALSO alone", sealInvariant(ALSO), 2);
        due("ALSO first", sealInvariant(ALSO, num(1)), 2);
        due("ALSO last", sealInvariant(num(1), ALSO), 2);
        due("ALSO twice", sealInvariant(num(1), ALSO, ALSO, num(1)), 2);
        int[] sixteen = new int[31];
        for (int i = 0; i < 31; i++) {
            sixteen[i] = i % 2 == 0 ? num(1) : ALSO;
        }
        due("sixteen parts", sealInvariant(sixteen), 0);
        due("sixteen parts and an ALSO", sealInvariant(joined(sixteen, row(ALSO))), 2);
    }

    @Sentence(in = "Terms", says = "each of words 0 to 9 leaving exactly one value,")
    static void partLeavesOneValue() {
        due("two values", sealInvariant(num(1), num(1)), 2);
        due("two values in the first part", sealInvariant(num(1), num(1), ALSO, num(1)), 2);
        due("two values in the last part", sealInvariant(num(1), ALSO, num(1), num(1)), 2);
        due("word 9", sealInvariant(num(0), NOT), 0);
        due("word 10", sealInvariant(num(1), THEN), 2);
        due("word 10 behind two values", sealInvariant(num(1), num(1), THEN), 2);
        due("word 10 between", sealInvariant(num(1), THEN, num(1)), 2);
        due("word 10 in the last part", sealInvariant(num(1), ALSO, num(1), THEN), 2);
        due("word 11", sealInvariant(num(1), num(1), set(0)), 2);
        due("word 11 takes the only value", sealInvariant(num(1), set(0)), 2);
        due("word 11 in the last part", sealInvariant(num(1), ALSO, num(1), num(1), set(0)), 2);
    }

    @Sentence(in = "Terms", says = "with the same limits of the stack (empty again for each part).")
    static void partsHaveTheLimitsOfTheStack() {
        due("8 values", sealInvariant(sumOf(8)), 0);
        due("9 values", sealInvariant(sumOf(9)), 2);
        due("8 values in each part", sealInvariant(joined(sumOf(8), row(ALSO), sumOf(8))), 0);
        due("9 values in the second", sealInvariant(joined(row(num(1), ALSO), sumOf(9))), 2);
        for (int op = 2; op <= 8; op++) {
            due("op " + op + " with 0", sealInvariant(op), 2);
            due("op " + op + " with 1", sealInvariant(num(1), op), 2);
            due("op " + op + " with 2", sealInvariant(num(1), num(1), op), 0);
            due("op " + op + " with 0, then two more", sealInvariant(op, num(1), num(1)), 2);
            due("op " + op + " with the value of the part before", sealInvariant(num(1), ALSO, num(1), op), 2);
        }
        due("op 9 with 0", sealInvariant(NOT), 2);
        due("op 9 with 0, then one more", sealInvariant(NOT, num(1)), 2);
        due("op 9 with the value of the part before", sealInvariant(num(1), ALSO, NOT), 2);
        due("op 9 with the value of the part before, then one more", sealInvariant(num(1), ALSO, NOT, num(1)), 2);
        // 1 - (1 - (1 - ..)) of 8 values is 0.
        int[] eight = sumOf(8);
        for (int i = 8; i < eight.length; i++) {
            eight[i] = MINUS;
        }
        due("8 values, a part that is 0 behind one that is not", sealed(withInvariant(joined(sumOf(8), row(ALSO), eight))).verdict(), 2);
    }

    @Sentence(in = "Terms", says = "It HOLDS in a state in which no part is 0.")
    static void holdsIfNoPartIsZero() {
        int[] values = {1, -1, 2, 256, 65536, MIN, MAX};
        for (int a : values) {
            ProtoCheck x = withInvariant(var(0), ALSO, var(1), ALSO, var(2));
            setInit(x, a, 1, -a);
            due("all parts are " + a + " or " + -a, sealed(x).verdict(), 0);
        }
        int[][] zeros = {{0, 1, 1}, {1, 0, 1}, {1, 1, 0}, {-1, 1, 0}, {0, 0, 0}};
        for (int[] first : zeros) {
            ProtoCheck x = withInvariant(var(0), ALSO, var(1), ALSO, var(2));
            setInit(x, first);
            due("a part is 0", sealed(x).verdict(), 2);
        }
        due("1 and 2 have no bit in common, but hold", sealed(withInvariant(num(1), ALSO, num(2))).verdict(), 0);
    }

    // Blocks

    @Sentence(in = "Terms", says = "BLOCKS: variables with the same block number 1 .. 3 are interchangeable.")
    static void sameBlockNumberIsInterchangeable() {
        for (int g = 0; g <= 3; g++) {
            due("both in block " + g, switchStates(g, g), g == 0 ? 4 : 3);
        }
        int[][] different = {{0, 1}, {1, 0}, {1, 2}, {2, 3}, {3, 1}, {0, 3}};
        for (int[] b : different) {
            due("blocks " + b[0] + " and " + b[1], switchStates(b), 4);
        }
        ProtoCheck x = withBlocks(3, 1, 2, 2, 1, 3);
        invariant(x, num(1));
        setInit(x, 6, 5, 4, 3, 2, 1);
        explored(sealed(x), 1, 0);
        due("three blocks, exchanged", reachable(x, 1, 2, 3, 4, 5, 6), 1);
        due("exchanged across blocks", reachable(x, 5, 6, 4, 3, 2, 1), 0);
    }

    private static void grow(ProtoCheck x, int v) {
        rule(x, num(1), THEN, var(v), num(1), PLUS, set(v));
    }

    @Sentence(in = "Terms", says = "The blocks are RIGHT if for any two variables of one block,")
    static void blocksAreLookedAtPairByPair() {
        for (int without = 0; without < 6; without++) {
            ProtoCheck x = withBlocks(2, 2, 2, 2, 2, 2);
            invariant(x, num(1));
            for (int v = 0; v < 6; v++) {
                if (v != without) {
                    grow(x, v);
                }
            }
            due("all but variable " + without, x.seal(), 3);
            grow(x, without);
            due("all six", x.seal(), 0);
        }
        for (int a = 0; a < 6; a++) {
            for (int b = a + 1; b < 6; b++) {
                ProtoCheck x = withInvariant(num(1));
                x.setSymGroup(a, 1);
                x.setSymGroup(b, 1);
                grow(x, b);
                due("variables " + a + " and " + b, x.seal(), 3);
            }
        }
        ProtoCheck x = withBlocks(0, 0, 1, 2, 3, 0);
        invariant(x, var(0), NOT);
        grow(x, 0);
        grow(x, 2);
        due("no two of one block", x.seal(), 0);
    }

    /** What seal() says of these rules if variables 0 and 1 are a block. */
    private static int sealPair(int[]... rules) {
        ProtoCheck x = withBlocks(1, 1);
        invariant(x, num(1));
        for (int[] words : rules) {
            rule(x, words);
        }
        return x.seal();
    }

    @Sentence(in = "Terms", says = "exchanging these two in all words VAR and SET makes of each rule one of the rules, word for word,")
    static void exchangeMakesRulesOfRules() {
        due("all words", sealPair(row(var(0), THEN, var(0), set(0)), row(var(1), THEN, var(1), set(1))), 0);
        due("both in one rule", sealPair(row(var(0), THEN, var(1), set(1)), row(var(1), THEN, var(0), set(0))), 0);
        due("VAR alone", sealPair(row(var(0), THEN, num(1), set(0)), row(var(1), THEN, num(1), set(0))), 3);
        due("SET alone", sealPair(row(var(0), THEN, num(1), set(0)), row(var(0), THEN, num(1), set(1))), 3);
        due("the last word differs", sealPair(row(num(1), THEN, var(0), set(0)), row(num(1), THEN, var(1), set(2))), 3);
        due("the first word differs", sealPair(row(num(1), THEN, var(0), set(0)), row(num(2), THEN, var(1), set(1))), 3);
        due("a word more", sealPair(row(var(0), THEN), row(var(1), THEN, num(1), set(2))), 3);
        due("a word less", sealPair(row(var(0), THEN, num(1), set(2)), row(var(1), THEN)), 3);
        due("one rule only begins as it should", sealPair(row(var(0), THEN), row(var(1), THEN, num(1), set(2)),
            row(var(0), THEN, num(1), set(2))), 3);
        due("one rule only ends too soon", sealPair(row(var(0), THEN, num(1), set(2)), row(var(1), THEN), row(var(0), THEN)), 3);
        due("the same in other words", sealPair(row(var(0), num(1), PLUS, THEN), row(num(1), var(1), PLUS, THEN)), 3);
        due("CONST 0 and CONST 1 are not exchanged", sealPair(row(num(0), THEN), row(num(1), THEN)), 0);
        due("neither is named", sealPair(row(var(2), THEN, num(1), set(3)), row(num(1), THEN)), 0);
        due("a rule made of itself", sealPair(row(var(0), var(1), PLUS, THEN), row(var(1), var(0), PLUS, THEN)), 0);
        due("only one way round", sealPair(row(var(0), THEN), row(var(0), THEN)), 3);
        due("no rules", sealPair(), 0);
    }

    private static int sealParts(int... words) {
        ProtoCheck x = withBlocks(0, 0, 0, 0, 3, 3);
        invariant(x, words);
        return x.seal();
    }

    @Sentence(in = "Terms", says = "and of each part of the invariant one of its parts, word for word.")
    static void exchangeMakesPartsOfParts() {
        due("neither is named", sealParts(num(4), ALSO, var(0), NOT), 0);
        due("both parts", sealParts(var(4), NOT, ALSO, var(5), NOT), 0);
        due("both parts and another between", sealParts(var(5), NOT, ALSO, num(1), ALSO, var(4), NOT), 0);
        due("one part", sealParts(var(4), NOT), 3);
        due("only the last part", sealParts(num(1), ALSO, var(5)), 3);
        due("a word more", sealParts(var(4), ALSO, var(5), NOT), 3);
        due("a word less", sealParts(var(4), NOT, ALSO, var(5)), 3);
        due("one part only begins as it should", sealParts(var(4), ALSO, var(5), NOT, ALSO, var(4), NOT), 3);
        due("one part only ends too soon", sealParts(var(4), NOT, ALSO, var(5), ALSO, var(4)), 3);
        due("the same in other words", sealParts(var(4), var(5), PLUS), 3);
        due("a part made of itself", sealParts(var(4), var(4), EQUAL, ALSO, var(5), var(5), EQUAL), 0);
        due("both orders", sealParts(var(4), var(5), PLUS, ALSO, var(5), var(4), PLUS), 0);
        due("CONST 4 and CONST 5 are not exchanged", sealParts(num(4), ALSO, num(6)), 0);
    }

    /** What the lower variable has in the standard form: rule 0, which breaks the invariant, copies it into variable 3. */
    private static int lowestVariable(int x0, int x1) {
        ProtoCheck x = withBlocks(1, 1);
        setInit(x, x0, x1);
        rule(x, num(1), THEN, var(0), set(3), num(1), set(4));
        rule(x, num(1), THEN, var(1), set(3), num(1), set(4));
        invariant(x, var(4), NOT);
        return explored(sealed(x), 1, 0).traceVar(1, 3);
    }

    @Sentence(in = "Terms", says = "The STANDARD FORM of a state has, within each block, the same values in ascending "
        + "order from the lowest variable on;")
    static void standardFormAscends() {
        int[][] pairs = {{0, 5}, {-1, 0}, {MIN, 3}, {MIN, MAX}, {-3, -2}, {MAX - 1, MAX}};
        for (int[] pair : pairs) {
            due("lower one of " + pair[0] + " and " + pair[1], lowestVariable(pair[0], pair[1]), pair[0]);
            due("lower one of " + pair[1] + " and " + pair[0], lowestVariable(pair[1], pair[0]), pair[0]);
        }
        ProtoCheck x = withBlocks(1, 1, 1, 1, 1, 1);
        setInit(x, MAX, 0, MIN, -1, 0, 1);
        invariant(x, num(1));
        explored(sealed(x), 1, 0);
        due("all six in another order", reachable(x, 0, 1, MAX, MIN, 0, -1), 1);
        due("in ascending order", reachable(x, MIN, -1, 0, 0, 1, MAX), 1);
        due("in descending order", reachable(x, MAX, 1, 0, 0, -1, MIN), 1);
        due("a value once too often", reachable(x, MIN, -1, -1, 0, 1, MAX), 0);
        due("a value too few times", reachable(x, MIN, -1, 0, 1, 1, MAX), 0);
    }

    @Sentence(in = "Terms", says = "variables with block number 0 stay.")
    static void variablesWithoutBlockStay() {
        ProtoCheck x = withBlocks(0, 1, 0, 1, 0, 0);
        setInit(x, 9, 8, 7, 6, 5, 4);
        invariant(x, num(1));
        explored(sealed(x), 1, 0);
        due("as it was", reachable(x, 9, 8, 7, 6, 5, 4), 1);
        due("the block exchanged", reachable(x, 9, 6, 7, 8, 5, 4), 1);
        due("others exchanged", reachable(x, 7, 8, 9, 6, 5, 4), 0);
        due("all in ascending order", reachable(x, 4, 5, 6, 7, 8, 9), 0);
    }

    @Sentence(in = "Terms", says = "(Blocks of one variable do nothing.)")
    static void blockOfOneDoesNothing() {
        for (int v = 0; v < 6; v++) {
            ProtoCheck x = withInvariant(var(v), num(4), LESS);
            x.setSymGroup(v, 3);
            rule(x, var(v), num(3), LESS, THEN, var(v), num(1), PLUS, set(v), num(-1), set((v + 1) % 6));
            explored(sealed(x), 9, 0);
            due("block of variable " + v, x.stateCount(), 4);
        }
        due("three blocks of one", switchStates(1, 3, 2), 4);
    }

    // Storing and expanding

    @Sentence(in = "Terms", says = "STORED are states in standard form, numbered from 0 in the order in which they were stored,")
    static void statesAreNumberedAsStored() {
        // State 1 is what rule 0 stored and state 2 what rule 1 stored; so 1 is expanded before 2.
        ProtoCheck x = withInvariant(never(0, 3));
        rule(x, var(0), NOT, THEN, num(1), set(0));
        rule(x, var(0), NOT, THEN, num(2), set(0));
        rule(x, var(0), num(2), EQUAL, THEN, num(3), set(0));
        explored(sealed(x), 2, 1);
        due("state 0 and 1 are expanded", x.stateCount(), 3);
        explored(x, 1, 0);
        due("state 2 is expanded", x.stateCount(), 4);
        due("and leads to the breaking one", x.traceRule(0), 1);
    }

    @Sentence(in = "Terms", says = "at most 400,")
    static void atMost400AreStored() {
        ProtoCheck x = explored(sealed(counter(399, num(1))), MAX, 0);
        due("just 400", x.stateCount(), 400);
        due("the last one", reachable(x, 399), 1);
        due("none more", reachable(x, 400), 0);
        x = explored(sealed(counter(400, num(1))), MAX, -5);
        due("one more", x.stateCount(), 400);
        x = explored(sealed(counter(398, num(1))), MAX, 0);
        due("one less", x.stateCount(), 399);
    }

    @Sentence(in = "Terms", says = "none twice.")
    static void noneIsStoredTwice() {
        ProtoCheck x = withInvariant(num(1));
        rule(x, num(1), THEN);
        rule(x, var(0), num(399), LESS, THEN, var(0), num(1), PLUS, set(0));
        rule(x, var(0), num(399), LESS, THEN, num(1), var(0), PLUS, set(0));
        rule(x, num(1), THEN, num(0), set(0));
        rule(x, num(0), var(0), LESS, THEN, var(0), num(1), MINUS, set(0));
        explored(sealed(x), 400, 0);
        due("400 states, each met again", x.stateCount(), 400);
        x = withInvariant(num(1));
        int[] far = {MIN, MAX, -1, 1, 65536, 0};
        setInit(x, far);
        rule(x, num(1), THEN, var(0), num(1), PLUS, num(1), MINUS, set(0));
        explored(sealed(x), 1, 0);
        due("wrapped around and back", x.stateCount(), 1);
    }

    @Sentence(in = "Terms", says = "EXPANDING a state: for the rules from 0 on, if the rule may fire there,")
    static void rulesFireFromZeroOn() {
        ProtoCheck x = withInvariant(var(0), NOT);
        rule(x, num(0), THEN, num(5), set(0));
        for (int r = 1; r < 12; r++) {
            rule(x, num(r), THEN, num(10 + r), set(0));
        }
        explored(sealed(x), 1, 0);
        due("only rule 1 has fired", x.stateCount(), 2);
        due("rule 0 may not", x.traceRule(0), 1);
        due("and so it is 11", x.traceVar(1, 0), 11);
        x = withInvariant(num(1));
        for (int r = 0; r < 12; r++) {
            rule(x, var(0), NOT, THEN, num(10 + r), set(0));
        }
        explored(sealed(x), 1, 1);
        due("all twelve fire", x.stateCount(), 13);
        x = withInvariant(num(1));
        explored(sealed(x), 1, 0);
        due("no rules", x.stateCount(), 1);
    }

    @Sentence(in = "Terms", says = "the standard form of the state after it is stored, if it is not yet,")
    static void standardFormIsStoredOnce() {
        ProtoCheck x = withBlocks(1, 1, 1);
        for (int v = 0; v < 3; v++) {
            rule(x, var(v), num(3), LESS, THEN, var(v), num(1), PLUS, set(v));
        }
        invariant(x, num(1));
        explored(sealed(x), 1, 1);
        due("three rules, one new state", x.stateCount(), 2);
        explored(x, 400, 0);
        due("three alike of 0 to 3", x.stateCount(), 20);
        due("stored in standard form", reachable(x, 3, 0, 2), 1);
    }

    @Sentence(in = "Terms", says = "the expanded state being its PARENT;")
    static void firstExpandedIsTheParent() {
        // 0 leads to 1 and 2, both of which lead to 3.
        ProtoCheck x = withInvariant(never(0, 3));
        rule(x, var(0), NOT, THEN, num(1), set(0));
        rule(x, var(0), NOT, THEN, num(2), set(0));
        rule(x, var(0), THEN, num(3), set(0));
        explored(sealed(x), 9, 0);
        dueState("by way of 1", x, 1, 1);
        // 3 is stored first from 1 and met again from 2, before 4 breaks it.
        x = withInvariant(never(0, 4));
        rule(x, var(0), NOT, THEN, num(1), set(0));
        rule(x, var(0), NOT, THEN, num(2), set(0));
        rule(x, num(0), var(0), LESS, var(0), num(3), LESS, AND, THEN, num(3), set(0));
        rule(x, var(0), num(3), EQUAL, THEN, num(4), set(0));
        explored(sealed(x), 9, 0);
        due("three steps", x.traceLen(), 3);
        dueState("still by way of 1", x, 1, 1);
    }

    /** Rules 0 to 2 make variable 0 to be 1, 2 and 3. */
    private static ProtoCheck threeWays(int... invariant) {
        ProtoCheck x = withInvariant(invariant);
        for (int r = 0; r < 3; r++) {
            rule(x, var(0), NOT, THEN, num(r + 1), set(0));
        }
        rule(x, var(0), THEN, var(0), num(10), PLUS, set(0));
        return sealed(x);
    }

    @Sentence(in = "Terms", says = "as soon as a state is stored in which the invariant does not hold, expanding ends, "
        + "and nothing is expanded any more:")
    static void nothingIsExpandedAfterTheBreakingState() {
        for (int broken = 1; broken <= 3; broken++) {
            ProtoCheck x = explored(threeWays(never(0, broken)), 1, 0);
            due("broken by rule " + (broken - 1), x.stateCount(), broken + 1);
            explored(x, 0, 0);
            explored(x, 9, 0);
            explored(x, MAX, 0);
            due("no more states", x.stateCount(), broken + 1);
            due("still violated", x.verdict(), 2);
        }
        ProtoCheck x = explored(violatedAtOnce(), 9, 0);
        due("broken by the first state", x.stateCount(), 1);
    }

    @Sentence(in = "Terms", says = "the description is VIOLATED, and that is the BREAKING state.")
    static void firstBrokenStateIsTheBreakingState() {
        ProtoCheck x = explored(threeWays(var(0), num(2), LESS), 9, 0);
        due("violated", x.verdict(), 2);
        dueState("2 comes before 3", x, x.traceLen(), 2);
        x = explored(sealed(counter(399, never(0, 399))), MAX, 0);
        due("the 400th state breaks it", x.verdict(), 2);
        due("the 400th state is stored", x.stateCount(), 400);
        dueState("the 400th state", x, x.traceLen(), 399);
    }

    @Sentence(in = "Terms", says = "If 400 are stored and another one should be, there is NO ROOM, expanding ends, and "
        + "nothing is expanded any more.")
    static void noRoomForThe401st() {
        ProtoCheck x = sealed(counter(400, never(0, 400)));
        explored(x, 399, 1);
        due("400 are stored", x.stateCount(), 400);
        explored(x, 0, 1);
        explored(x, 1, -5);
        due("the 401st would break it, but is not stored", x.verdict(), 0);
        explored(x, 1, -5);
        explored(x, 0, -5);
        due("still 400", x.stateCount(), 400);
        due("no counterexample", x.traceLen(), -1);
        x = withInvariant(num(1));
        rule(x, var(0), num(399), LESS, THEN, var(0), num(1), PLUS, set(0));
        rule(x, var(0), num(399), EQUAL, THEN, num(0), set(0));
        explored(sealed(x), 400, 0);
        due("400 stored, and one of them met again", x.verdict(), 1);
    }

    // The counterexample

    @Sentence(in = "Terms", says = "The WAY is state 0, ..., the parent of the breaking state's parent, its parent, the breaking state.")
    static void wayGoesFromStateZeroToTheBreakingState() {
        ProtoCheck x = violatedAtOnce();
        due("state 0 is the breaking state", x.traceLen(), 0);
        dueState("state 0", x, 0);
        x = explored(sealed(counter(9, never(0, 1))), 9, 0);
        due("state 0 is its parent", x.traceLen(), 1);
        x = explored(sealed(counter(399, never(0, 399))), 400, 0);
        due("the longest way", x.traceLen(), 399);
        for (int i = 0; i <= 399; i += 57) {
            due("the longest way, step " + i, x.traceVar(i, 0), i);
        }
    }

    @Sentence(in = "Terms", says = "The COUNTEREXAMPLE begins at the first state as it was set;")
    static void counterexampleBeginsAtTheFirstStateAsSet() {
        ProtoCheck x = withBlocks(1, 1, 0, 2, 2, 2);
        setInit(x, 9, 8, 7, 6, 5, 4);
        invariant(x, num(0));
        sealed(x);
        dueState("not its standard form", x, 0, 9, 8, 7, 6, 5, 4);
    }

    @Sentence(in = "Terms", says = "at each step it fires the lowest rule that may fire and after which the standard form "
        + "is the next state on the way (there always is one).")
    static void lowestRuleOnTheWayFires() {
        // Expanding (0, 5) rule 0 fires; from (5, 0), as it was set, only rule 1 leads to the same standard form.
        ProtoCheck x = withBlocks(1, 1);
        setInit(x, 5, 0);
        rule(x, var(0), NOT, THEN, num(3), set(0));
        rule(x, var(1), NOT, THEN, num(3), set(1));
        invariant(x, joined(never(0, 3), row(ALSO), never(1, 3)));
        explored(sealed(x), 9, 0);
        due("the other rule", x.traceRule(0), 1);
        dueState("not the standard form", x, 1, 5, 3);
        x = withInvariant(never(0, 4));
        rule(x, num(0), THEN, num(4), set(0));
        rule(x, num(1), THEN);
        rule(x, num(1), THEN, num(3), set(0));
        for (int r = 3; r < 12; r++) {
            rule(x, num(1), THEN, num(4), set(0));
        }
        explored(sealed(x), 9, 0);
        due("rule 0 may not fire, rules 1 and 2 lead elsewhere", x.traceRule(0), 3);
    }

    // Refused calls

    private static Map<String, ToIntFunction<ProtoCheck>> callsThatMayBeRefused() {
        Map<String, ToIntFunction<ProtoCheck>> out = new LinkedHashMap<>();
        for (int v : row(-1, 6, 0, 5)) {
            out.put("setInit(" + v + ", 2)", x -> x.setInit(v, 2));
            out.put("setSymGroup(" + v + ", 1)", x -> x.setSymGroup(v, 1));
            out.put("setSymGroup(" + v + ", 4)", x -> x.setSymGroup(v, 4));
            out.put("setSymGroup(" + v + ", -1)", x -> x.setSymGroup(v, -1));
            out.put("probeVar(" + v + ", 2)", x -> x.probeVar(v, 2));
            out.put("traceRule(" + v + ")", x -> x.traceRule(v));
        }
        for (int w : row(13, var(6), num(0), NOT, THEN, set(0))) {
            out.put("feedRule(" + w + ")", x -> x.feedRule(w));
            out.put("feedInvariant(" + w + ")", x -> x.feedInvariant(w));
        }
        out.put("beginRule()", ProtoCheck::beginRule);
        out.put("seal()", ProtoCheck::seal);
        out.put("explore(1)", x -> x.explore(1));
        out.put("traceLen()", ProtoCheck::traceLen);
        return out;
    }

    /** What the object answers from there on: brought to an end as it is, and then after it has been described further. */
    private static List<Integer> goOn(ProtoCheck x) {
        List<Integer> out = new ArrayList<>();
        bringToAnEnd(x, out);
        int[] more = {x.feedRule(num(1)), x.feedRule(THEN), x.feedInvariant(var(0)), x.feedInvariant(num(2)), x.feedInvariant(LESS),
            x.seal(), x.beginRule(), x.feedRule(num(1)), x.feedRule(THEN), x.feedRule(num(2)), x.feedRule(set(0)),
            x.setSymGroup(0, 0)};
        for (int answer : more) {
            out.add(answer);
        }
        bringToAnEnd(x, out);
        return out;
    }

    private static void bringToAnEnd(ProtoCheck x, List<Integer> out) {
        int[] end = {x.stateCount(), x.verdict(), x.isReachable(), x.seal(), x.stateCount(), x.explore(1), x.stateCount(),
            x.verdict(), x.isReachable(), x.explore(400), x.stateCount(), x.verdict(), x.isReachable(), x.traceLen(), x.replay()};
        for (int answer : end) {
            out.add(answer);
        }
        for (int i = -1; i < 4; i++) {
            out.add(x.traceRule(i));
            for (int v = 0; v < 6; v++) {
                out.add(x.traceVar(i, v));
            }
        }
    }

    @Sentence(in = "Terms", says = "A call that answers -1, -2, -3 or -4 changes nothing.")
    static void refusedCallChangesNothing() {
        Map<String, Supplier<ProtoCheck>> stages = unsealedStages();
        stages.putAll(sealedStages());
        stages.put("sealed with a block", () -> sealed(switches(2, 2)));
        TreeSet<Integer> refusals = new TreeSet<>();
        for (Map.Entry<String, Supplier<ProtoCheck>> stage : stages.entrySet()) {
            List<Integer> untouched = goOn(stage.getValue().get());
            for (Map.Entry<String, ToIntFunction<ProtoCheck>> call : callsThatMayBeRefused().entrySet()) {
                ProtoCheck x = stage.getValue().get();
                int answer = call.getValue().applyAsInt(x);
                if (answer < 0 && answer >= -4) {
                    refusals.add(answer);
                    due(stage.getKey() + ": " + call.getKey() + " changes nothing", goOn(x).equals(untouched) ? 1 : 0, 1);
                }
            }
        }
        due("all four were answered", refusals.size(), 4);
    }

    @Sentence(in = "Terms", says = "If several would fit, the first one told counts.")
    static void firstOneToldCounts() {
        ProtoCheck x = sealed(filledUp());
        due("setInit: no variable, sealed", x.setInit(6, 1), -1);
        due("setSymGroup: no variable, sealed", x.setSymGroup(-1, 1), -1);
        due("setSymGroup: no block number, sealed", x.setSymGroup(0, 4), -1);
        due("beginRule: sealed, 12 rules", x.beginRule(), -2);
        due("feedRule: sealed, no word", x.feedRule(13), -2);
        due("feedRule: sealed, 32 words", x.feedRule(NOT), -2);
        due("feedInvariant: sealed, no word", x.feedInvariant(13), -2);
        due("feedInvariant: sealed, 32 words", x.feedInvariant(NOT), -2);
        due("feedRule: sealed, no rule", sealed(withInvariant(num(1))).feedRule(NOT), -2);
        due("feedRule: no rule, no word", new ProtoCheck().feedRule(13), -4);
        due("feedRule: no word, 32 words", filledUp().feedRule(13), -1);
        due("feedInvariant: no word, 32 words", filledUp().feedInvariant(13), -1);
        due("explore: not sealed, n < 1", new ProtoCheck().explore(0), -2);
        due("explore: no room, n < 1", outOfRoom().explore(0), -5);
        x = withBlocks(1, 1);
        x.beginRule();
        due("seal: rule and invariant", x.seal(), 1);
        invariant(x, var(0));
        due("seal: rule and blocks", x.seal(), 1);
        x = withBlocks(1, 1);
        rule(x, var(0), THEN);
        due("seal: invariant and blocks", x.seal(), 2);
    }
}
