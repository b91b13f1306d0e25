/** Promise 9: out. */
final class OutTest {
    private static final String UPWARD = "LOAD 0, OUT, LOAD 0, CONST 1, ADD, STORE 0, GOTO 0";

    public static void main(String[] args) {
        Due.test("The k-th of the latest [..] that were given out (0 the latest).", OutTest::latestFirst);
        Due.test("of the latest 30: just thirty", () -> ofThirty(30));
        Due.test("of the latest 30: one more, so that the first is forgotten", () -> ofThirty(31));
        Due.test("of the latest 30: twice as many, and one", () -> ofThirty(61));
        Due.test("of the latest 30: in each step of the way", OutTest::stepByStep);
        Due.test("that were given out: by a trace, in the order of its outs", OutTest::orderInATurn);
        Due.test("that were given out: by a turn that is left, those before the guard", OutTest::leftTurn);
        Due.test("IndexOutOfBoundsException, when there is none: nothing was given out", OutTest::nothing);
        Due.test("IndexOutOfBoundsException, when there is none: fewer were given out", OutTest::fewer);
        Due.test("IndexOutOfBoundsException, when there is none: older than the latest 30", OutTest::older);
        Due.test("IndexOutOfBoundsException, when there is none: below 0", OutTest::below);
        Due.finish();
    }

    /** So many given out, from 0 upward: four by the interpreter, the others by a trace. */
    private static TraceTier given(int many) {
        return Due.run(28 + many - 4, 0, 0, UPWARD);
    }

    private static void latestFirst() {
        Due.outs("three", Due.run(6, 0, 0, "CONST 5, OUT, CONST -6, OUT, CONST 7, OUT, HALT"), 7, -6, 5);
    }

    private static void ofThirty(int many) {
        TraceTier x = given(many);
        Due.same("given out", x.outs(), many);
        for (int k = 0; k < 30; k++) {
            Due.same("out(" + k + ") of " + many, x.out(k), many - 1 - k);
        }
        Due.index("out(30)", x, y -> y.out(30));
    }

    private static void stepByStep() {
        for (int tier = 0; tier < 2; tier++) {
            TraceTier x = Due.with(UPWARD);
            x.begin(0, 0, tier == 1);
            x.run(28);
            for (int many = 4; many < 95; many++) {
                int oldest = Math.min(30, many) - 1;
                Due.same("out(0)", x.out(0), many - 1);
                Due.same("the oldest", x.out(oldest), many - 1 - oldest);
                Due.index("one older", x, y -> y.out(oldest + 1));
                x.run(tier == 1 ? 1 : 7);
            }
        }
    }

    private static void orderInATurn() {
        TraceTier x = Due.traced("LOAD 0, OUT, CONST 3, OUT, LOAD 1, LOAD 0, SUB, OUT");
        x.run(1);
        Due.same("the last of the turn", x.out(0), 1);
        Due.same("the one before", x.out(1), 3);
        Due.same("the first of the turn", x.out(2), 6);
        Due.same("the last of the round before", x.out(3), 1);
    }

    private static void leftTurn() {
        String code = "CONST 7, OUT, LOAD 0, IF 5, HALT, CONST 8, OUT, LOAD 0, CONST 1, SUB, STORE 0, GOTO 0";
        TraceTier x = Due.run(4 * 11 + 2, 5, 0, code);
        Due.same("left", x.count(3), 1);
        Due.outs("left", x, 7, 8, 7, 8, 7, 8, 7, 8, 7, 8, 7);
    }

    private static void nothing() {
        State[] silent = {State.NEW, State.UNSOUND, State.CODED, State.BEGUN, State.CLEARED};
        for (State state : silent) {
            Refused.index("out(0) when " + state, state::made, x -> x.out(0));
            Refused.index("out(29) when " + state, state::made, x -> x.out(29));
        }
    }

    private static void fewer() {
        Refused.index("out(1) of one", () -> Due.run(2, 0, 0, "CONST 5, OUT, HALT"), x -> x.out(1));
        Refused.index("out(29) of one", () -> Due.run(2, 0, 0, "CONST 5, OUT, HALT"), x -> x.out(29));
        Refused.index("out(29) of 29", () -> given(29), x -> x.out(29));
        Due.same("out(29) of 30", given(30).out(29), 0);
    }

    private static void older() {
        int[] many = {30, 31, 59, 60, 61, 200};
        for (int m : many) {
            Refused.index("out(30) of " + m, () -> given(m), x -> x.out(30));
            Refused.index("out(31) of " + m, () -> given(m), x -> x.out(31));
            Refused.index("out(" + (m - 1) + ") of " + m, () -> given(m), x -> x.out(Math.max(30, m - 1)));
        }
        Refused.index("out(MAX)", x -> x.out(Integer.MAX_VALUE));
    }

    private static void below() {
        int[] none = {-1, -30, Integer.MIN_VALUE};
        for (int k : none) {
            Refused.index("out(" + k + ")", x -> x.out(k));
            Refused.index("out(" + k + ") of 60", () -> given(60), x -> x.out(k));
        }
    }
}
