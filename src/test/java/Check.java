/** Counts and prints the answers that are not as due, and builds words; tests extend it to use its names as they are. */
class Check {
    static final int PLUS = 2, MINUS = 3, TIMES = 4, EQUAL = 5, LESS = 6, AND = 7, OR = 8, NOT = 9, THEN = 10, ALSO = 12;

    private static int wrong = 0;
    private static int asked = 0;

    Check() {
    }

    static int wrong() {
        return wrong;
    }

    static int asked() {
        return asked;
    }

    static int num(int k) {
        return k << 8;
    }

    static int var(int v) {
        return v << 8 | 1;
    }

    static int set(int v) {
        return v << 8 | 11;
    }

    static void due(String what, long got, long want) {
        asked++;
        if (got != want) {
            wrong++;
            if (wrong <= 50) {
                System.out.println(what + " answered " + got + ", due is " + want);
            }
        }
    }

    /** Begins a rule and feeds it, all of which should go well. */
    static void rule(ProtoCheck x, int... words) {
        due("beginRule() goes well", x.beginRule() >= 0 ? 1 : 0, 1);
        for (int w : words) {
            due("feedRule(" + w + ")", x.feedRule(w), 0);
        }
    }

    static void invariant(ProtoCheck x, int... words) {
        for (int w : words) {
            due("feedInvariant(" + w + ")", x.feedInvariant(w), 0);
        }
    }

    static void end(String name) {
        System.out.println(name + ": " + asked + " answers, " + wrong + " not as due");
        if (wrong != 0) {
            System.exit(1);
        }
    }
}
