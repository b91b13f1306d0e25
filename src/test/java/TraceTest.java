/** Promise 12: trace. How a trace is made is asked by ValuesTest. */
final class TraceTest {
    public static void main(String[] args) {
        Due.test("from 0 in the order in which they were made", TraceTest::inOrder);
        Due.test("the instruction where it begins (0)", TraceTest::begins);
        Due.test("operations in its head (1)", TraceTest::head);
        Due.test("[operations] in its body (2)", TraceTest::body);
        Due.test("guards (3)", TraceTest::guards);
        Due.test("outs (4)", TraceTest::outs);
        Due.test("locals that stay (5): all, some and none", TraceTest::stay);
        Due.test("Of trace t: what is told of it does not change", TraceTest::stays);
        Due.test("when there is none of these: no trace yet", TraceTest::noTraceYet);
        Due.test("when there is none of these: behind the last trace", TraceTest::behindTheLast);
        Due.test("when there is none of these: a fifth trace", TraceTest::aFifth);
        Due.test("when there is none of these: below 0", TraceTest::below);
        Due.test("when there is none of these: another what", TraceTest::wrongWhat);
        Due.finish();
    }

    /** The loop at 8 comes first, then the one at 1. */
    private static TraceTier two() {
        return Due.run(60, 6, 0, "GOTO 8, LOAD 1, CONST 1, ADD, STORE 1, LOAD 1, OUT, GOTO 1, "
            + "LOAD 0, CONST 1, SUB, DUP, STORE 0, IF 8, GOTO 1");
    }

    private static void inOrder() {
        TraceTier x = two();
        Due.same("traces", x.count(5), 2);
        Due.trace("the first", x, 0, 8, 0, 1, 1, 0, 5);
        Due.trace("the second", x, 1, 1, 0, 1, 0, 1, 5);
    }

    private static void begins() {
        Due.same("at 0", Due.traced("LOAD 0, DROP").trace(0, 0), 0);
        TraceTier x = new TraceTier();
        for (int i = 0; i < 39; i++) {
            x.add(Due.GOTO, i + 1);
        }
        x.add(Due.GOTO, 39);
        x.begin(0, 0, true);
        x.run(50);
        Due.trace("at 39", x, 0, 39, 0, 0, 0, 0, 6);
    }

    private static void head() {
        Due.same("none", Due.traced("LOAD 2, CONST 1, ADD, STORE 2").trace(0, 1), 0);
        Due.same("one", Due.traced("LOAD 0, LOAD 1, ADD, STORE 2").trace(0, 1), 1);
        StringBuilder code = new StringBuilder("LOAD 0");
        for (int n = 1; n <= 14; n++) {
            code.append(", CONST ").append(n).append(", ADD");
        }
        TraceTier x = Due.run(4 * 30, 6, 7, code + ", IF 0, HALT");
        Due.trace("fourteen of thirty instructions", x, 0, 0, 14, 0, 1, 0, 6);
        x.run(2);
        Due.counts("fourteen, and two guards", x, 0, 120, 2, 0, 16, 1, 0);
    }

    private static void body() {
        Due.same("none", Due.traced("LOAD 0, LOAD 1, ADD, STORE 2").trace(0, 2), 0);
        StringBuilder code = new StringBuilder("LOAD 2");
        for (int n = 1; n <= 13; n++) {
            code.append(", CONST ").append(n).append(", ADD");
        }
        TraceTier x = Due.traced(code + ", STORE 2");
        Due.trace("thirteen; guards and outs are none", x, 0, 0, 0, 13, 0, 0, 5);
        Due.trace("beside a guard and an out", State.TRACED.made(), 0, 0, 1, 1, 1, 1, 5);
    }

    /** As many as thirty instructions can have: six of locals, four of sums. */
    private static void guards() {
        Due.same("none", Due.traced("LOAD 2, DROP").trace(0, 3), 0);
        StringBuilder code = new StringBuilder();
        for (int l = 0; l < 6; l++) {
            code.append("LOAD ").append(l).append(", IF ").append(2 * l + 2).append(", ");
        }
        for (int l = 0; l < 4; l++) {
            code.append("LOAD ").append(l).append(", LOAD ").append(l).append(", ADD, IF ").append(16 + 4 * l).append(", ");
        }
        TraceTier x = Due.run(4 * 29, 1, 0, code + "GOTO 0");
        Due.trace("ten", x, 0, 0, 4, 0, 10, 0, 6);
        x.run(2);
        Due.counts("ten", x, 0, 116, 2, 0, 24, 1, 0);
    }

    private static void outs() {
        Due.same("none", Due.traced("LOAD 2, DROP").trace(0, 4), 0);
        StringBuilder code = new StringBuilder("CONST 3, OUT");
        for (int n = 1; n < 14; n++) {
            code.append(", LOAD 1, OUT");
        }
        TraceTier x = Due.traced(code.toString());
        Due.trace("fourteen", x, 0, 0, 0, 0, 0, 14, 6);
        x.run(1);
        Due.same("given out", x.outs(), 5 * 14);
    }

    private static void stay() {
        Due.same("all", Due.traced("LOAD 0, DROP").trace(0, 5), 6);
        Due.same("all but one", Due.traced("CONST 1, STORE 5").trace(0, 5), 5);
        Due.same("none", Due.traced("LOAD 0, LOAD 1, STORE 0, LOAD 2, STORE 1, LOAD 3, STORE 2, LOAD 4, STORE 3, "
            + "LOAD 5, STORE 4, STORE 5").trace(0, 5), 0);
    }

    private static void stays() {
        for (State state : new State[] {State.TRACED, State.WHOLE_TURN, State.LEFT, State.HALTED}) {
            Due.trace("when " + state, state.made(), 0, 0, 1, 1, 1, 1, 5);
        }
    }

    private static void noTraceYet() {
        for (State state : new State[] {State.NEW, State.CODED, State.BEGUN, State.RECORDED, State.CLEARED}) {
            for (int what = 0; what <= 5; what++) {
                int asked = what;
                Refused.index("trace(0, " + what + ") when " + state, state::made, x -> x.trace(0, asked));
            }
        }
    }

    private static void behindTheLast() {
        int[] none = {1, 2, 3, 4, Integer.MAX_VALUE};
        for (int t : none) {
            Refused.index("trace(" + t + ", 0)", x -> x.trace(t, 0));
        }
        Refused.index("trace(2, 0) of two", TraceTest::two, x -> x.trace(2, 0));
        Refused.index("trace(2, 5) of two", TraceTest::two, x -> x.trace(2, 5));
    }

    private static TraceTier four() {
        TraceTier x = new TraceTier();
        for (int loop = 0; loop < 4; loop++) {
            Due.append(x, "CONST 8, STORE 0, LOAD 0, CONST 1, SUB, DUP, STORE 0, IF " + (8 * loop + 2));
        }
        x.add(Due.HALT, 0);
        x.begin(0, 0, true);
        x.run(500);
        return x;
    }

    private static void aFifth() {
        for (int t = 0; t < 4; t++) {
            Due.trace("of four", four(), t, 8 * t + 2, 0, 1, 1, 0, 5);
        }
        Refused.index("trace(4, 0) of four", TraceTest::four, x -> x.trace(4, 0));
        Refused.index("trace(-1, 0) of four", TraceTest::four, x -> x.trace(-1, 0));
    }

    private static void below() {
        int[] none = {-1, -4, Integer.MIN_VALUE};
        for (int t : none) {
            Refused.index("trace(" + t + ", 0)", x -> x.trace(t, 0));
        }
    }

    private static void wrongWhat() {
        int[] none = {-1, 6, 7, Integer.MIN_VALUE, Integer.MAX_VALUE};
        for (int what : none) {
            Refused.index("trace(0, " + what + ")", x -> x.trace(0, what));
            Refused.index("trace(1, " + what + ") of two", TraceTest::two, x -> x.trace(1, what));
        }
    }
}
