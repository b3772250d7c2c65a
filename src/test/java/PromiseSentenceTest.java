import java.io.IOException;
import java.util.Map;
import java.util.function.Supplier;

/** One test, or more, for each sentence of the promises, at the edges that the sentence names. */
public final class PromiseSentenceTest extends Fixture {
    private PromiseSentenceTest() {
    }

    public static void main(String[] args) throws IOException, IllegalAccessException {
        String[] sections = new String[17];
        for (int p = 1; p <= 17; p++) {
            sections[p - 1] = "Promise " + p;
        }
        Sentences.run(PromiseSentenceTest.class, sections);
    }

    private interface Ask {
        int of(ProtoCheck x);
    }

    private static void dueInEach(Map<String, Supplier<ProtoCheck>> stages, String call, Ask ask, int want) {
        for (Map.Entry<String, Supplier<ProtoCheck>> stage : stages.entrySet()) {
            due(stage.getKey() + ": " + call, ask.of(stage.getValue().get()), want);
        }
    }

    private static ProtoCheck begunAnew(ProtoCheck x) {
        x.init();
        return x;
    }

    // Promise 1: a new object

    @Sentence(in = "Promise 1", says = "As after init().")
    static void newObjectIsAsAfterInit() {
        ProtoCheck[] both = {new ProtoCheck(), begunAnew(new ProtoCheck())};
        for (ProtoCheck x : both) {
            due("no rules", x.feedRule(num(1)), -4);
            due("no words in the invariant", x.seal(), 2);
            due("not sealed", x.explore(1), -2);
            due("nothing stored", x.stateCount(), 0);
            due("no verdict", x.verdict(), 0);
            due("no counterexample", x.traceLen(), -1);
            due("no step", x.traceRule(0), -1);
            due("nothing to replay", x.replay(), 0);
            due("nothing to ask", x.isReachable(), -6);
            invariant(x, joined(never(0, 1), row(ALSO, var(1), num(0), EQUAL)));
            due("blocks are 0, so these words are right", x.seal(), 0);
            explored(x, 1, 0);
            due("first state and the one asked about are all 0", x.isReachable(), 1);
        }
        ProtoCheck used = violated();
        due("another one's use is not seen", new ProtoCheck().stateCount(), 0);
        due("nor is it forgotten", used.stateCount(), 3);
    }

    // Promise 2: init

    @Sentence(in = "Promise 2", says = "No rules,")
    static void initLeavesNoRules() {
        ProtoCheck x = begunAnew(filledUp());
        due("feedRule()", x.feedRule(num(1)), -4);
        invariant(x, num(1));
        explored(sealed(x), 1, 0);
        due("no rule fires", x.stateCount(), 1);
        x = begunAnew(filledUp());
        for (int r = 0; r < 12; r++) {
            due("twelve again", x.beginRule(), r);
        }
        due("and no more", x.beginRule(), -3);
        for (int i = 0; i < 32; i++) {
            due("the twelfth had 32 words and has none", x.feedRule(num(1)), 0);
        }
        due("and now 32", x.feedRule(num(1)), -3);
        due("a rule that is not right is gone", begunAnew(refusedWithRule()).seal(), 2);
    }

    @Sentence(in = "Promise 2", says = "no words in the invariant,")
    static void initLeavesNoWordsInTheInvariant() {
        ProtoCheck x = begunAnew(filledUp());
        due("no words", x.seal(), 2);
        for (int i = 0; i < 32; i++) {
            due("32 fit again", x.feedInvariant(i == 0 ? num(1) : NOT), 0);
        }
        due("and no more", x.feedInvariant(NOT), -3);
        x = begunAnew(violatedAtOnce());
        invariant(x, num(1));
        due("the words before are gone", sealed(x).verdict(), 0);
    }

    @Sentence(in = "Promise 2", says = "first state and the state asked about all 0,")
    static void initMakesTheFirstStateZero() {
        ProtoCheck x = withInvariant(num(0));
        setInit(x, 1, 2, 3, 4, MIN, MAX);
        dueState("before", sealed(x), 0, 1, 2, 3, 4, MIN, MAX);
        x.init();
        invariant(x, num(0));
        dueState("after", sealed(x), 0, 0, 0, 0, 0, 0, 0);
        x = new ProtoCheck();
        setInit(x, 1, 2, 3, 4, 5, 6);
        x.init();
        invariant(x, num(0));
        dueState("after, when it was not sealed", sealed(x), 0, 0, 0, 0, 0, 0, 0);
    }

    @Sentence(in = "Promise 2", says = "first state and the state asked about all 0,")
    static void initMakesTheStateAskedAboutZero() {
        for (int v = 0; v < 6; v++) {
            ProtoCheck x = withInvariant(num(1));
            x.probeVar(v, v == 0 ? MIN : v);
            explored(sealed(x), 1, 0);
            due("before", x.isReachable(), 0);
            x.init();
            invariant(x, num(1));
            explored(sealed(x), 1, 0);
            due("after", x.isReachable(), 1);
        }
    }

    @Sentence(in = "Promise 2", says = "block numbers all 0,")
    static void initMakesBlockNumbersZero() {
        ProtoCheck x = withBlocks(1, 1, 2, 2, 3, 3);
        x.init();
        setInit(x, 6, 5, 4, 3, 2, 1);
        invariant(x, num(1), ALSO, var(0), ALSO, var(3), ALSO, var(4));
        explored(sealed(x), 1, 0);
        due("as set", reachable(x, 6, 5, 4, 3, 2, 1), 1);
        due("0 and 1 exchanged", reachable(x, 5, 6, 4, 3, 2, 1), 0);
        due("2 and 3 exchanged", reachable(x, 6, 5, 3, 4, 2, 1), 0);
        due("4 and 5 exchanged", reachable(x, 6, 5, 4, 3, 1, 2), 0);
    }

    @Sentence(in = "Promise 2", says = "not sealed,")
    static void initUnseals() {
        for (Map.Entry<String, Supplier<ProtoCheck>> stage : sealedStages().entrySet()) {
            ProtoCheck x = begunAnew(stage.getValue().get());
            String when = "begun anew after " + stage.getKey() + ": ";
            due(when + "explore()", x.explore(1), -2);
            due(when + "verdict()", x.verdict(), 0);
            due(when + "traceLen()", x.traceLen(), -1);
            due(when + "replay()", x.replay(), 0);
            due(when + "isReachable()", x.isReachable(), -6);
            due(when + "setInit()", x.setInit(0, 0), 0);
            due(when + "setSymGroup()", x.setSymGroup(0, 0), 0);
            due(when + "beginRule()", x.beginRule(), 0);
            rest(when, x);
        }
    }

    private static void rest(String when, ProtoCheck x) {
        due(when + "feedRule()", x.feedRule(num(0)), 0);
        due(when + "feedRule()", x.feedRule(THEN), 0);
        due(when + "feedInvariant()", x.feedInvariant(num(1)), 0);
        due(when + "seal()", x.seal(), 0);
        due(when + "nothing expanded", x.verdict(), 0);
        due(when + "explore()", x.explore(1), 0);
        due(when + "verdict()", x.verdict(), 1);
    }

    @Sentence(in = "Promise 2", says = "nothing stored.")
    static void initLeavesNothingStored() {
        dueInEach(sealedStages(), "init() and stateCount()", x -> begunAnew(x).stateCount(), 0);
        ProtoCheck x = begunAnew(outOfRoom());
        invariant(x, num(1));
        explored(sealed(x), 1, 0);
        due("the first state alone", x.stateCount(), 1);
        due("a state of before is gone", reachable(x, 1), 0);
        x = begunAnew(outOfRoom());
        rule(x, var(0), num(399), LESS, THEN, var(0), num(1), PLUS, set(0));
        invariant(x, num(1));
        explored(sealed(x), 400, 0);
        due("room for 400 again", x.stateCount(), 400);
        due("all expanded again", x.verdict(), 1);
    }

    // Promise 3: setInit

    @Sentence(in = "Promise 3", says = "The first state has x in variable v. 0;")
    static void setInitTakesAnyIntForEachVariable() {
        int[] values = {0, 1, -1, MIN, MAX, 256};
        for (int shift = 0; shift < 6; shift++) {
            ProtoCheck x = withInvariant(num(0));
            int[] first = new int[6];
            for (int v = 0; v < 6; v++) {
                first[v] = values[(v + shift) % 6];
                due("a value that does not stay", x.setInit(v, 99), 0);
                due("setInit(" + v + ", " + first[v] + ")", x.setInit(v, first[v]), 0);
            }
            dueState("the last one for a variable", sealed(x), 0, first);
        }
        dueInEach(unsealedStages(), "setInit(5, 1)", x -> x.setInit(5, 1), 0);
    }

    @Sentence(in = "Promise 3", says = "-1 if v is no variable,")
    static void setInitRefusesWhatIsNoVariable() {
        for (int v : NO_VARIABLES) {
            due("setInit(" + v + ", 0)", new ProtoCheck().setInit(v, 0), -1);
            dueInEach(sealedStages(), "setInit(" + v + ", 0)", x -> x.setInit(v, 0), -1);
        }
    }

    @Sentence(in = "Promise 3", says = "-2 if it is sealed.")
    static void setInitIsRefusedWhenSealed() {
        for (int v = 0; v < 6; v++) {
            int variable = v;
            dueInEach(sealedStages(), "setInit(" + v + ", 1)", x -> x.setInit(variable, 1), -2);
        }
    }

    // Promise 4: setSymGroup

    @Sentence(in = "Promise 4", says = "Variable v gets block number g. 0;")
    static void setSymGroupTakesZeroToThree() {
        for (int v = 0; v < 6; v++) {
            for (int g = 0; g <= 3; g++) {
                int other = (v + 1) % 6;
                ProtoCheck x = withInvariant(num(1));
                due("setSymGroup(" + v + ", " + g + ")", x.setSymGroup(v, g), 0);
                due("setSymGroup(" + other + ", " + g + ")", x.setSymGroup(other, g), 0);
                x.setInit(v, 5);
                x.probeVar(other, 5);
                explored(sealed(x), 1, 0);
                due("variables " + v + " and " + other + " in block " + g, x.isReachable(), g == 0 ? 0 : 1);
            }
        }
        ProtoCheck x = withBlocks(1, 1);
        due("back to 0", x.setSymGroup(1, 0), 0);
        setInit(x, 5);
        invariant(x, num(1));
        explored(sealed(x), 1, 0);
        due("the last number counts", reachable(x, 0, 5), 0);
        dueInEach(unsealedStages(), "setSymGroup(5, 3)", y -> y.setSymGroup(5, 3), 0);
    }

    @Sentence(in = "Promise 4", says = "-1 if v is no variable or g is not 0 .. 3,")
    static void setSymGroupRefusesOtherNumbers() {
        ProtoCheck x = withBlocks(1, 1);
        int[] noBlocks = {-1, 4, 5, 256, 257, MIN, MAX};
        for (int v : NO_VARIABLES) {
            due("setSymGroup(" + v + ", 1)", x.setSymGroup(v, 1), -1);
            due("setSymGroup(" + v + ", 4)", x.setSymGroup(v, 4), -1);
        }
        for (int g : noBlocks) {
            due("setSymGroup(0, " + g + ")", x.setSymGroup(0, g), -1);
            due("setSymGroup(5, " + g + ")", x.setSymGroup(5, g), -1);
        }
        setInit(x, 5);
        invariant(x, num(1));
        explored(sealed(x), 1, 0);
        due("the numbers before are still there", reachable(x, 0, 5), 1);
        dueInEach(sealedStages(), "setSymGroup(6, 1)", y -> y.setSymGroup(6, 1), -1);
        dueInEach(sealedStages(), "setSymGroup(0, 4)", y -> y.setSymGroup(0, 4), -1);
    }

    @Sentence(in = "Promise 4", says = "-2 if it is sealed.")
    static void setSymGroupIsRefusedWhenSealed() {
        for (int g = 0; g <= 3; g++) {
            int block = g;
            dueInEach(sealedStages(), "setSymGroup(0, " + g + ")", x -> x.setSymGroup(0, block), -2);
            dueInEach(sealedStages(), "setSymGroup(5, " + g + ")", x -> x.setSymGroup(5, block), -2);
        }
    }

    // Promise 5: beginRule

    @Sentence(in = "Promise 5", says = "A new rule without words: its number;")
    static void beginRuleGivesNumbersFromZeroOn() {
        ProtoCheck x = withInvariant(num(1));
        for (int r = 0; r < 12; r++) {
            due("beginRule()", x.beginRule(), r);
            due("without words it is not right", x.seal(), 1);
            due("its first word", x.feedRule(num(1)), 0);
            due("its second word", x.feedRule(THEN), 0);
        }
        due("all are right", x.seal(), 0);
    }

    @Sentence(in = "Promise 5", says = "-2 if it is sealed,")
    static void beginRuleIsRefusedWhenSealed() {
        dueInEach(sealedStages(), "beginRule()", ProtoCheck::beginRule, -2);
    }

    @Sentence(in = "Promise 5", says = "-3 if there are 12.")
    static void thirteenthRuleIsRefused() {
        ProtoCheck x = new ProtoCheck();
        for (int r = 0; r < 11; r++) {
            x.beginRule();
        }
        due("the 12th", x.beginRule(), 11);
        due("a 13th", x.beginRule(), -3);
        due("a 13th again", x.beginRule(), -3);
        due("the 12th is still the last one", x.feedRule(num(1)), 0);
        ProtoCheck y = filledUp();
        due("with words", y.beginRule(), -3);
        due("and the 12th has them still", y.feedRule(num(1)), -3);
        due("all are right", y.seal(), 0);
    }

    // Promise 6: feedRule

    @Sentence(in = "Promise 6", says = "The rule begun last gets one word more. 0;")
    static void lastRuleIsFed() {
        ProtoCheck x = withInvariant(never(0, 2));
        rule(x, num(1), THEN, num(1), set(0));
        rule(x, num(1), THEN, num(2), set(0));
        explored(sealed(x), 1, 0);
        due("the second rule has its own words", x.traceRule(0), 1);
        x = withInvariant(num(1));
        x.beginRule();
        x.beginRule();
        due("feedRule(CONST)", x.feedRule(num(1)), 0);
        due("feedRule(THEN)", x.feedRule(THEN), 0);
        due("the first one has no words", x.seal(), 1);
        due("each kind of word", eachKindOfWord(new ProtoCheck()), 0);
    }

    private static int eachKindOfWord(ProtoCheck x) {
        int sum = x.beginRule();
        int[] words = {num(0), num(8388607), num(-8388608), var(0), var(5), 2, 3, 4, 5, 6, 7, 8, 9, 10, set(0), set(5), 12};
        for (int w : words) {
            sum += Math.abs(x.feedRule(w)) + Math.abs(x.feedInvariant(w));
        }
        return sum;
    }

    @Sentence(in = "Promise 6", says = "-2 if it is sealed,")
    static void feedRuleIsRefusedWhenSealed() {
        dueInEach(sealedStages(), "feedRule(NOT)", x -> x.feedRule(NOT), -2);
        dueInEach(sealedStages(), "feedRule(13)", x -> x.feedRule(13), -2);
    }

    @Sentence(in = "Promise 6", says = "-4 if there is no rule,")
    static void feedRuleIsRefusedWithoutRule() {
        ProtoCheck x = withInvariant(num(1));
        due("a word", x.feedRule(num(1)), -4);
        due("no word", x.feedRule(13), -4);
        x.beginRule();
        due("with a rule", x.feedRule(num(1)), 0);
        x.init();
        due("the rule is gone", x.feedRule(num(1)), -4);
    }

    @Sentence(in = "Promise 6", says = "-1 if w is no word,")
    static void feedRuleRefusesWhatIsNoWord() {
        ProtoCheck x = withInvariant(num(1));
        x.beginRule();
        for (int w : NO_WORDS) {
            due("feedRule(" + w + ")", x.feedRule(w), -1);
            due("full: feedRule(" + w + ")", filledUp().feedRule(w), -1);
        }
        x.feedRule(num(1));
        x.feedRule(THEN);
        for (int w : NO_WORDS) {
            due("feedRule(" + w + ")", x.feedRule(w), -1);
        }
        due("they have not come in", x.seal(), 0);
    }

    @Sentence(in = "Promise 6", says = "-3 if the rule has 32.")
    static void thirtyThirdWordOfARuleIsRefused() {
        ProtoCheck x = withInvariant(never(0, 14));
        rule(x, num(1), THEN);
        for (int i = 0; i < 15; i++) {
            due("a word of 32", x.feedRule(num(i)), 0);
            due("a word of 32", x.feedRule(set(0)), 0);
        }
        due("a 33rd", x.feedRule(num(1)), -3);
        due("a 33rd again", x.feedRule(set(0)), -3);
        due("the next rule", x.beginRule(), 1);
        due("has room", x.feedRule(num(0)), 0);
        due("has room", x.feedRule(THEN), 0);
        explored(sealed(x), 1, 0);
        due("the 31st and 32nd word count", x.traceVar(1, 0), 14);
    }

    // Promise 7: feedInvariant

    @Sentence(in = "Promise 7", says = "The invariant gets one word more. 0;")
    static void invariantIsFed() {
        ProtoCheck x = new ProtoCheck();
        due("without rules", x.feedInvariant(num(0)), 0);
        x.beginRule();
        due("with a rule begun", x.feedInvariant(NOT), 0);
        due("the rule has got nothing of it", x.seal(), 1);
        x.feedRule(num(0));
        x.feedRule(THEN);
        due("two words make 1", sealed(x).verdict(), 0);
    }

    @Sentence(in = "Promise 7", says = "-2 if it is sealed,")
    static void feedInvariantIsRefusedWhenSealed() {
        dueInEach(sealedStages(), "feedInvariant(NOT)", x -> x.feedInvariant(NOT), -2);
        dueInEach(sealedStages(), "feedInvariant(13)", x -> x.feedInvariant(13), -2);
    }

    @Sentence(in = "Promise 7", says = "-1 if w is no word,")
    static void feedInvariantRefusesWhatIsNoWord() {
        ProtoCheck x = new ProtoCheck();
        for (int w : NO_WORDS) {
            due("feedInvariant(" + w + ")", x.feedInvariant(w), -1);
            due("full: feedInvariant(" + w + ")", filledUp().feedInvariant(w), -1);
        }
        due("they have not come in", x.seal(), 2);
        x.feedInvariant(num(1));
        for (int w : NO_WORDS) {
            due("feedInvariant(" + w + ")", x.feedInvariant(w), -1);
        }
        due("nor now", x.seal(), 0);
    }

    @Sentence(in = "Promise 7", says = "-3 if it has 32.")
    static void thirtyThirdWordOfTheInvariantIsRefused() {
        ProtoCheck x = withInvariant(num(0));
        for (int i = 1; i < 32; i++) {
            due("word " + i, x.feedInvariant(NOT), 0);
        }
        due("a 33rd", x.feedInvariant(NOT), -3);
        due("a 33rd again", x.feedInvariant(ALSO), -3);
        due("31 times NOT", sealed(x).verdict(), 0);
    }

    // Promise 8: seal

    @Sentence(in = "Promise 8", says = "-2 if it is sealed already;")
    static void sealIsRefusedWhenSealed() {
        dueInEach(sealedStages(), "seal()", ProtoCheck::seal, -2);
        for (Map.Entry<String, Supplier<ProtoCheck>> stage : sealedStages().entrySet()) {
            ProtoCheck x = stage.getValue().get();
            int states = x.stateCount();
            int verdict = x.verdict();
            due(stage.getKey() + ": seal()", x.seal(), -2);
            due(stage.getKey() + ": states as before", x.stateCount(), states);
            due(stage.getKey() + ": verdict as before", x.verdict(), verdict);
        }
    }

    @Sentence(in = "Promise 8", says = "1 if a rule is not right;")
    static void sealLooksAtEachRule() {
        due("no rule", sealed(withInvariant(num(1))).stateCount(), 1);
        for (int wrong = 0; wrong < 12; wrong++) {
            ProtoCheck x = withInvariant(num(1));
            for (int r = 0; r < 12; r++) {
                if (r == wrong) {
                    x.beginRule();
                } else {
                    rule(x, num(1), THEN);
                }
            }
            due("only rule " + wrong + " has no words", x.seal(), 1);
        }
    }

    @Sentence(in = "Promise 8", says = "2 if the invariant is not right (so also if it has no words);")
    static void sealLooksAtTheInvariant() {
        due("no words, no rules", new ProtoCheck().seal(), 2);
        due("no words, a rule", counter(3).seal(), 2);
        due("an empty part", counter(3, num(1), ALSO).seal(), 2);
        due("two values", counter(3, num(1), num(1)).seal(), 2);
        due("a right one", counter(3, num(1)).seal(), 0);
    }

    @Sentence(in = "Promise 8", says = "3 if the blocks are not right:")
    static void sealLooksAtTheBlocks() {
        ProtoCheck x = counter(3, num(1));
        x.setSymGroup(0, 1);
        due("a block of one", sealed(x).stateCount(), 1);
        for (int g = 1; g <= 3; g++) {
            x = counter(3, num(1));
            x.setSymGroup(0, g);
            x.setSymGroup(5, g);
            due("the rule names one of two", x.seal(), 3);
            x = withInvariant(var(0), NOT);
            x.setSymGroup(0, g);
            x.setSymGroup(5, g);
            due("the invariant names one of two", x.seal(), 3);
        }
    }

    @Sentence(in = "Promise 8", says = "in these cases it stays as it is and can be gone on with.")
    static void refusedSealCanBeGoneOnWith() {
        ProtoCheck x = withBlocks(2, 2);
        x.probeVar(5, 8);
        x.setInit(5, 8);
        rule(x, var(0), NOT);
        due("a rule without THEN", x.seal(), 1);
        due("nothing stored", x.stateCount(), 0);
        due("not sealed", x.explore(1), -2);
        due("the same again", x.seal(), 1);
        due("the rule goes on", x.feedRule(THEN), 0);
        due("no invariant", x.seal(), 2);
        due("nothing stored", x.stateCount(), 0);
        due("not sealed", x.explore(1), -2);
        due("the rule goes on", x.feedRule(num(1)), 0);
        due("the rule goes on", x.feedRule(set(0)), 0);
        due("the invariant", x.feedInvariant(num(1)), 0);
        due("the other variable has no such rule", x.seal(), 3);
        due("nothing stored", x.stateCount(), 0);
        due("not sealed", x.explore(1), -2);
        due("no verdict", x.verdict(), 0);
        rule(x, var(1), NOT, THEN, num(1), set(1));
        explored(sealed(x), 9, 0);
        due("0, 1 or both", x.stateCount(), 3);
        due("what was set before has stayed", reachable(x, 1, 0, 0, 0, 0, 8), 1);
        dueInEach(unsealedStages(), "verdict()", ProtoCheck::verdict, 0);
        dueInEach(unsealedStages(), "stateCount()", ProtoCheck::stateCount, 0);
    }

    @Sentence(in = "Promise 8", says = "Else it is sealed, the standard form of the first state is stored as state 0 "
        + "(VIOLATED if the invariant does not hold there), and 0.")
    static void sealStoresTheFirstState() {
        ProtoCheck x = withBlocks(1, 1, 1);
        setInit(x, 3, MIN, 2);
        invariant(x, num(1));
        due("seal()", x.seal(), 0);
        due("one state", x.stateCount(), 1);
        due("not yet expanded", x.verdict(), 0);
        explored(x, 1, 0);
        due("in standard form", reachable(x, MIN, 2, 3), 1);
        due("of the first state", reachable(x, 0, 0, 0), 0);
        x = counter(3, never(0, 0));
        due("seal() of a first state that breaks it", x.seal(), 0);
        due("violated", x.verdict(), 2);
        due("one state", x.stateCount(), 1);
        due("no steps", x.traceLen(), 0);
        due("replay()", x.replay(), 1);
    }

    // Promise 9: explore

    @Sentence(in = "Promise 9", says = "-2 if it is not sealed,")
    static void exploreIsRefusedBeforeSealing() {
        int[] ns = {1, 0, -1, MIN, MAX};
        for (int n : ns) {
            dueInEach(unsealedStages(), "explore(" + n + ")", x -> x.explore(n), -2);
        }
    }

    @Sentence(in = "Promise 9", says = "-5 if there was no room before.")
    static void exploreIsRefusedAfterNoRoom() {
        ProtoCheck x = outOfRoom();
        int[] ns = {1, 0, -1, 400, MIN, MAX};
        for (int n : ns) {
            due("explore(" + n + ")", x.explore(n), -5);
        }
        due("still 400", x.stateCount(), 400);
    }

    private static void grow(ProtoCheck x, int v, int by) {
        rule(x, num(1), THEN, var(v), num(by), PLUS, set(v));
    }

    @Sentence(in = "Promise 9", says = "Else states are expanded in the order of their numbers,")
    static void lowestNumberIsExpandedFirst() {
        // States (0,0), (1,0), (0,1), then (2,0), (1,1) of state 1, then (0,2) of state 2.
        int[][] expandedWhenBroken = {{1, 0, 1}, {0, 1, 1}, {2, 0, 2}, {1, 1, 2}, {0, 2, 3}, {3, 0, 4}, {2, 1, 4}, {1, 2, 5}, {0, 3, 6}};
        for (int[] row : expandedWhenBroken) {
            ProtoCheck x = withInvariant(var(0), num(row[0]), EQUAL, var(1), num(row[1]), EQUAL, AND, NOT);
            grow(x, 0, 1);
            grow(x, 1, 1);
            sealed(x);
            explored(x, row[2] - 1, 1);
            explored(x, 1, 0);
            due("broken by (" + row[0] + ", " + row[1] + ")", x.verdict(), 2);
        }
    }

    @Sentence(in = "Promise 9", says = "going on where the last call ended:")
    static void exploreGoesOn() {
        ProtoCheck x = sealed(counter(398, num(1)));
        for (int i = 1; i < 399; i++) {
            due("one by one", x.explore(1), 1);
        }
        due("399 are stored", x.stateCount(), 399);
        due("the last one", x.explore(1), 0);
        x = sealed(counter(398, num(1)));
        int[] ns = {100, 0, -5, 1, 297};
        for (int n : ns) {
            due("explore(" + n + ")", x.explore(n), 1);
        }
        due("the last one", x.explore(1), 0);
    }

    @Sentence(in = "Promise 9", says = "at most n of them (none if n < 1).")
    static void exploreExpandsAtMostN() {
        ProtoCheck x = sealed(counter(1000, num(1)));
        int[] none = {0, -1, -400, MIN};
        for (int n : none) {
            due("explore(" + n + ")", x.explore(n), 1);
            due("none expanded", x.stateCount(), 1);
        }
        explored(x, 1, 1);
        due("one", x.stateCount(), 2);
        explored(x, 2, 1);
        due("two more", x.stateCount(), 4);
        explored(x, 396, 1);
        due("396 more", x.stateCount(), 400);
        x = explored(sealed(counter(398, num(1))), MAX, 0);
        due("as many as there are", x.stateCount(), 399);
        x = explored(sealed(counter(300, num(1))), 300, 1);
        due("301 are stored", x.stateCount(), 301);
        due("and 300 expanded", x.verdict(), 0);
    }

    @Sentence(in = "Promise 9", says = "0 if it is violated or all stored states are expanded,")
    static void exploreAnswersZeroAtTheEnd() {
        int[] ns = {0, -1, 1, MIN, MAX};
        for (int n : ns) {
            due("violated: explore(" + n + ")", violated().explore(n), 0);
            due("violated at once: explore(" + n + ")", violatedAtOnce().explore(n), 0);
            due("all expanded: explore(" + n + ")", held().explore(n), 0);
        }
        ProtoCheck x = sealed(counter(3, num(1)));
        due("three of four", x.explore(3), 1);
        due("the fourth, without a new state", x.explore(1), 0);
        x = sealed(counter(3, never(0, 3)));
        due("two of three", x.explore(2), 1);
        due("the third breaks it", x.explore(1), 0);
        due("a single state", sealed(withInvariant(num(1))).explore(1), 0);
        due("just 400 states", sealed(counter(399, num(1))).explore(400), 0);
    }

    @Sentence(in = "Promise 9", says = "-5 if there was no room,")
    static void exploreAnswersNoRoom() {
        due("401 states", sealed(counter(400, num(1))).explore(400), -5);
        due("401 states, all at once", sealed(counter(400, num(1))).explore(MAX), -5);
        ProtoCheck x = sealed(counter(400, num(1)));
        explored(x, 399, 1);
        due("the 400th has no room", x.explore(1), -5);
        due("the 401st would break it", sealed(counter(400, never(0, 400))).explore(400), -5);
        x = withInvariant(num(1));
        grow(x, 0, 1);
        grow(x, 1, 1);
        due("room ends before the last state is expanded", sealed(x).explore(400), -5);
    }

    @Sentence(in = "Promise 9", says = "else 1.")
    static void exploreAnswersOneUnderWay() {
        ProtoCheck x = sealed(counter(3, never(0, 3)));
        due("nothing expanded", x.explore(0), 1);
        due("one of three", x.explore(1), 1);
        due("two of three", x.explore(1), 1);
        due("a single state, not expanded", sealed(withInvariant(num(1))).explore(0), 1);
        due("400 stored, one not expanded", sealed(counter(399, num(1))).explore(399), 1);
    }

    @Sentence(in = "Promise 9", says = "The state at which room ran out counts as not expanded.")
    static void stateWithoutRoomIsNotExpanded() {
        // It is the very last one, so with it all would be expanded.
        ProtoCheck x = explored(sealed(counter(400, num(1))), 400, -5);
        due("not all are expanded", x.verdict(), 0);
        due("so nothing can be asked", x.isReachable(), -6);
        due("and it is not gone on with", x.explore(1), -5);
        due("not even then", x.verdict(), 0);
    }

    // Promise 10: verdict

    @Sentence(in = "Promise 10", says = "2 if it is violated;")
    static void verdictOfAViolatedOne() {
        due("after two steps", violated().verdict(), 2);
        due("at once", violatedAtOnce().verdict(), 2);
        due("by the 400th state", explored(sealed(counter(399, never(0, 399))), 400, 0).verdict(), 2);
        ProtoCheck x = sealed(counter(3, never(0, 1)));
        due("not yet", x.verdict(), 0);
        due("now", explored(x, 1, 0).verdict(), 2);
    }

    @Sentence(in = "Promise 10", says = "1 if it is sealed, not violated, and all stored states are expanded;")
    static void verdictWhenAllAreExpanded() {
        due("four states", held().verdict(), 1);
        due("a single state", explored(sealed(withInvariant(num(1))), 1, 0).verdict(), 1);
        due("just 400 states", explored(sealed(counter(399, num(1))), 400, 0).verdict(), 1);
        due("asked for more", explored(held(), 9, 0).verdict(), 1);
    }

    @Sentence(in = "Promise 10", says = "else 0.")
    static void verdictElse() {
        dueInEach(unsealedStages(), "verdict()", ProtoCheck::verdict, 0);
        due("sealed, a single state", sealed(withInvariant(num(1))).verdict(), 0);
        due("three of four", explored(sealed(counter(3, num(1))), 3, 1).verdict(), 0);
        due("399 of 400", explored(sealed(counter(399, num(1))), 399, 1).verdict(), 0);
        due("no room", outOfRoom().verdict(), 0);
    }

    // Promise 11: stateCount

    @Sentence(in = "Promise 11", says = "How many states are stored;")
    static void stateCountCountsStates() {
        ProtoCheck x = sealed(counter(1000, num(1)));
        for (int i = 1; i <= 60; i++) {
            due("the first state and one more a call", x.stateCount(), i);
            x.explore(1);
        }
        due("no room", outOfRoom().stateCount(), 400);
        due("just 400", explored(sealed(counter(399, num(1))), 400, 0).stateCount(), 400);
        due("violated at once", violatedAtOnce().stateCount(), 1);
        due("violated", violated().stateCount(), 3);
        due("holding", held().stateCount(), 4);
    }

    @Sentence(in = "Promise 11", says = "0 before sealing.")
    static void stateCountBeforeSealing() {
        dueInEach(unsealedStages(), "stateCount()", ProtoCheck::stateCount, 0);
    }

    // Promise 12: traceLen

    @Sentence(in = "Promise 12", says = "The number of steps of the counterexample;")
    static void traceLenCountsSteps() {
        due("no step", violatedAtOnce().traceLen(), 0);
        due("one step", explored(sealed(counter(3, never(0, 1))), 9, 0).traceLen(), 1);
        due("two steps", violated().traceLen(), 2);
        due("the longest one", explored(sealed(counter(399, never(0, 399))), 400, 0).traceLen(), 399);
        ProtoCheck x = withInvariant(never(0, 6));
        grow(x, 0, 1);
        grow(x, 0, 3);
        due("a shortest one", explored(sealed(x), 400, 0).traceLen(), 2);
    }

    private static Map<String, Supplier<ProtoCheck>> notViolated() {
        Map<String, Supplier<ProtoCheck>> out = unsealedStages();
        out.putAll(sealedStages());
        out.remove("violated");
        out.remove("violated at once");
        return out;
    }

    @Sentence(in = "Promise 12", says = "-1 if it is not violated.")
    static void traceLenWithoutViolation() {
        dueInEach(notViolated(), "traceLen()", ProtoCheck::traceLen, -1);
    }

    // Promise 13: traceRule

    @Sentence(in = "Promise 13", says = "The rule fired at step i (0 the first);")
    static void traceRuleOfEachStep() {
        ProtoCheck x = withInvariant(never(0, 12));
        for (int r = 0; r < 12; r++) {
            rule(x, var(0), num(11 - r), EQUAL, THEN, num(12 - r), set(0));
        }
        explored(sealed(x), 400, 0);
        for (int i = 0; i < 12; i++) {
            due("traceRule(" + i + ")", x.traceRule(i), 11 - i);
        }
        x = explored(sealed(counter(399, never(0, 399))), 400, 0);
        due("the first of 399", x.traceRule(0), 0);
        due("the last of 399", x.traceRule(398), 0);
    }

    @Sentence(in = "Promise 13", says = "-1 if there is no such step,")
    static void traceRuleOfNoStep() {
        int[] none = {2, 3, 399, 400, 401, -1, -2, MIN, MAX};
        for (int i : none) {
            due("two steps: traceRule(" + i + ")", violated().traceRule(i), -1);
        }
        due("the last step is one", violated().traceRule(1), 0);
        int[] all = {0, 1, -1, MIN, MAX};
        for (int i : all) {
            due("no steps: traceRule(" + i + ")", violatedAtOnce().traceRule(i), -1);
        }
        ProtoCheck x = explored(sealed(counter(399, never(0, 399))), 400, 0);
        due("399 steps: traceRule(399)", x.traceRule(399), -1);
        due("399 steps: traceRule(400)", x.traceRule(400), -1);
    }

    @Sentence(in = "Promise 13", says = "or it is not violated.")
    static void traceRuleWithoutViolation() {
        for (int i : row(0, 1, -1, 399, MIN, MAX)) {
            dueInEach(notViolated(), "traceRule(" + i + ")", x -> x.traceRule(i), -1);
        }
    }

    // Promise 14: traceVar

    @Sentence(in = "Promise 14", says = "Variable v of the state after i steps (0: the first state);")
    static void traceVarOfEachState() {
        ProtoCheck x = withInvariant(never(0, 2));
        setInit(x, 0, MIN, MAX, 3, 4, 5);
        rule(x, num(1), THEN, var(0), num(1), PLUS, set(0), var(5), num(2), TIMES, set(5), var(1), num(1), MINUS, set(1));
        explored(sealed(x), 9, 0);
        dueState("the first state", x, 0, 0, MIN, MAX, 3, 4, 5);
        dueState("after a step", x, 1, 1, MAX, MAX, 3, 4, 10);
        dueState("after two steps", x, 2, 2, MAX - 1, MAX, 3, 4, 20);
        x = explored(sealed(counter(399, never(0, 399))), 400, 0);
        due("after 398 of 399", x.traceVar(398, 0), 398);
        due("after 399 of 399", x.traceVar(399, 0), 399);
    }

    /** Broken after two steps, with no 0 in any state. */
    private static ProtoCheck violatedWithoutZeros() {
        ProtoCheck x = withInvariant(never(0, 3));
        setInit(x, 1, 1, 1, 1, 1, 1);
        grow(x, 0, 1);
        return explored(sealed(x), 9, 0);
    }

    @Sentence(in = "Promise 14", says = "0 if there are not so many,")
    static void traceVarAfterTooManySteps() {
        ProtoCheck x = violatedWithoutZeros();
        due("the last state is one", x.traceVar(2, 0), 3);
        int[] none = {3, 4, 399, 400, 401, -1, -2, MIN, MAX, MAX / 6 + 1, MIN / 6};
        for (int i : none) {
            dueState("two steps", x, i);
        }
        x = explored(sealed(counter(399, never(0, 399))), 400, 0);
        due("399 steps: traceVar(400, 0)", x.traceVar(400, 0), 0);
        x = withInvariant(num(0));
        setInit(x, 1, 1, 1, 1, 1, 1);
        dueState("no steps", sealed(x), 1);
    }

    @Sentence(in = "Promise 14", says = "v is no variable,")
    static void traceVarOfNoVariable() {
        ProtoCheck x = violatedWithoutZeros();
        for (int i = 0; i <= 2; i++) {
            for (int v : NO_VARIABLES) {
                due("traceVar(" + i + ", " + v + ")", x.traceVar(i, v), 0);
            }
            due("variable 5 is one", x.traceVar(i, 5), 1);
            due("variable 0 is one", x.traceVar(i, 0), i + 1);
        }
    }

    @Sentence(in = "Promise 14", says = "or it is not violated.")
    static void traceVarWithoutViolation() {
        for (Map.Entry<String, Supplier<ProtoCheck>> stage : notViolated().entrySet()) {
            ProtoCheck x = stage.getValue().get();
            dueState(stage.getKey(), x, 0);
            dueState(stage.getKey(), x, 1);
        }
        ProtoCheck x = withInvariant(num(1));
        setInit(x, 1, 2, 3, 4, 5, 6);
        dueState("not sealed", x, 0);
        dueState("sealed", sealed(x), 0);
        dueState("holding", explored(x, 1, 0), 0);
        x = violatedWithoutZeros();
        x.init();
        dueState("begun anew", x, 0);
        dueState("begun anew", x, 2);
    }

    // Promise 15: replay

    @Sentence(in = "Promise 15", says = "1 if it is violated and the invariant does not hold in the last state of the counterexample;")
    static void replayOfAViolatedOne() {
        due("no step", violatedAtOnce().replay(), 1);
        due("two steps", violated().replay(), 1);
        due("399 steps", explored(sealed(counter(399, never(0, 399))), 400, 0).replay(), 1);
        ProtoCheck x = withBlocks(1, 1);
        setInit(x, 2, 0);
        rule(x, num(1), THEN, var(0), num(1), PLUS, set(0));
        rule(x, num(1), THEN, var(1), num(1), PLUS, set(1));
        invariant(x, joined(never(0, 4), row(ALSO), never(1, 4)));
        explored(sealed(x), 400, 0);
        due("the last state is not in standard form", x.traceVar(x.traceLen(), 0), 4);
        due("but breaks it", x.replay(), 1);
    }

    @Sentence(in = "Promise 15", says = "0 if it is not violated.")
    static void replayWithoutViolation() {
        dueInEach(notViolated(), "replay()", ProtoCheck::replay, 0);
        ProtoCheck x = withInvariant(var(0));
        due("not sealed, but would be violated", x.replay(), 0);
        x.setInit(0, 1);
        due("it would not hold if all were 0", sealed(x).replay(), 0);
        x = violated();
        x.init();
        x.setInit(0, 3);
        invariant(x, never(0, 2));
        due("it would not hold where it broke before", sealed(x).replay(), 0);
    }

    // Promise 16: probeVar

    @Sentence(in = "Promise 16", says = "Variable v of the state asked about becomes x. 0;")
    static void probeVarTakesAnyIntForEachVariable() {
        int[] first = {MIN, MAX, -1, 1, 256, 65536};
        ProtoCheck x = withInvariant(num(1));
        setInit(x, first);
        explored(sealed(x), 1, 0);
        due("all 0", x.isReachable(), 0);
        for (int v = 0; v < 6; v++) {
            due("probeVar(" + v + ", " + first[v] + ")", x.probeVar(v, first[v]), 0);
            due("variables 0 to " + v, x.isReachable(), v == 5 ? 1 : 0);
        }
        for (int v = 0; v < 6; v++) {
            due("one more", x.probeVar(v, first[v] + 1), 0);
            due("one more in variable " + v, x.isReachable(), 0);
            due("as before", x.probeVar(v, first[v]), 0);
            due("as before in variable " + v, x.isReachable(), 1);
        }
        Map<String, Supplier<ProtoCheck>> all = unsealedStages();
        all.putAll(sealedStages());
        dueInEach(all, "probeVar(0, 1)", y -> y.probeVar(0, 1), 0);
        dueInEach(all, "probeVar(5, 1)", y -> y.probeVar(5, 1), 0);
    }

    @Sentence(in = "Promise 16", says = "-1 if v is no variable.")
    static void probeVarRefusesWhatIsNoVariable() {
        Map<String, Supplier<ProtoCheck>> all = unsealedStages();
        all.putAll(sealedStages());
        for (int v : NO_VARIABLES) {
            dueInEach(all, "probeVar(" + v + ", 1)", x -> x.probeVar(v, 1), -1);
            ProtoCheck x = held();
            x.probeVar(v, 9);
            due("nothing has changed", x.isReachable(), 1);
        }
    }

    // Promise 17: isReachable

    @Sentence(in = "Promise 17", says = "If verdict() is 1: 1 if the standard form of the state asked about is stored, 0 if not.")
    static void isReachableWhenAllAreExpanded() {
        ProtoCheck x = explored(sealed(counter(399, num(1))), 400, 0);
        due("the first", reachable(x, 0), 1);
        due("the last", reachable(x, 399), 1);
        due("one too many", reachable(x, 400), 0);
        due("one too few", reachable(x, -1), 0);
        due("another variable", reachable(x, 399, 0, 0, 0, 0, 1), 0);
        x = withBlocks(0, 3, 3, 3);
        setInit(x, 1, 3, MIN, MAX);
        invariant(x, num(1));
        explored(sealed(x), 1, 0);
        due("as set", reachable(x, 1, 3, MIN, MAX), 1);
        due("exchanged", reachable(x, 1, MAX, 3, MIN), 1);
        due("in standard form", reachable(x, 1, MIN, 3, MAX), 1);
        due("exchanged with one of no block", reachable(x, 3, 1, MIN, MAX), 0);
        due("asked again", x.isReachable(), 0);
    }

    @Sentence(in = "Promise 17", says = "Else -6.")
    static void isReachableElse() {
        Map<String, Supplier<ProtoCheck>> all = unsealedStages();
        all.putAll(sealedStages());
        all.remove("holding");
        dueInEach(all, "isReachable()", ProtoCheck::isReachable, -6);
        due("399 of 400", explored(sealed(counter(399, num(1))), 399, 1).isReachable(), -6);
        due("violated, the first state", violated().isReachable(), -6);
        due("violated, the breaking state", reachable(violated(), 2), -6);
    }
}
