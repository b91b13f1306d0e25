/** Promise 7: top. */
final class TopTest {
    public static void main(String[] args) {
        Due.test("The k-th number from the top (0) of the stack.", TopTest::eachOfThem);
        Due.test("The k-th number [..] of the stack: behind HALT too", TopTest::halted);
        Due.test("The k-th number [..] of the stack: when a trace was left, what the picture says",
            TopTest::fromAPicture);
        Due.test("IndexOutOfBoundsException, when there is none: of an empty stack", TopTest::emptyStack);
        Due.test("IndexOutOfBoundsException, when there is none: below the lowest", TopTest::belowTheLowest);
        Due.test("IndexOutOfBoundsException, when there is none: never a seventh", () -> none(6, 7, Integer.MAX_VALUE));
        Due.test("IndexOutOfBoundsException, when there is none: above the top", () -> none(-1, -6, Integer.MIN_VALUE));
        Due.finish();
    }

    private static void none(int... all) {
        for (int k : all) {
            Refused.index("top(" + k + ")", x -> x.top(k));
            Refused.index("top(" + k + ") of six", TopTest::six, x -> x.top(k));
        }
    }

    private static TraceTier six() {
        return Due.run(6, 0, 0, "CONST 1, CONST 2, CONST 3, CONST 4, CONST 5, CONST 6, HALT");
    }

    private static void eachOfThem() {
        TraceTier x = Due.begun(0, 0, "CONST 1, CONST 2, CONST 3, CONST 4, CONST 5, CONST 6, ADD, HALT");
        for (int depth = 1; depth <= 6; depth++) {
            x.run(1);
            Due.same("the top", x.top(0), depth);
            Due.same("the lowest", x.top(depth - 1), 1);
        }
        Due.stack("six", x, 6, 5, 4, 3, 2, 1);
        x.run(1);
        Due.stack("five", x, 11, 4, 3, 2, 1);
    }

    private static void halted() {
        TraceTier x = six();
        x.run(1);
        Due.stack("halted", x, 6, 5, 4, 3, 2, 1);
        Due.stack("halted behind a trace", State.HALTED.made(), 18);
    }

    /** The IF takes a sixth number, so that five are left to its picture. */
    private static void fromAPicture() {
        String code = "LOAD 1, CONST 2, LOAD 0, CONST 1, SUB, DUP, STORE 0, CONST 4, CONST 5, LOAD 0, IF 12, HALT, "
            + "DROP, DROP, DROP, DROP, DROP, GOTO 0";
        TraceTier x = Due.run(4 * 17 + 2, 7, 50, code);
        Due.stack("between turns", x);
        Due.counts("two whole turns", x, 0, 68, 2, 0, 4, 1, 0);
        x.run(1);
        Due.counts("left", x, 11, 68, 2, 1, 6, 1, 0);
        Due.stack("from the picture", x, 5, 4, 0, 2, 50);
    }

    private static void emptyStack() {
        State[] empty = {State.NEW, State.UNSOUND, State.CODED, State.BEGUN, State.TRACED, State.WHOLE_TURN, State.CLEARED};
        for (State state : empty) {
            Refused.index("top(0) when " + state, state::made, x -> x.top(0));
        }
        Refused.index("top(0) of what was taken", () -> Due.run(2, 0, 0, "CONST 1, DROP, HALT"), x -> x.top(0));
    }

    private static void belowTheLowest() {
        State[] one = {State.RECORDED, State.LEFT, State.HALTED};
        for (State state : one) {
            Due.stack("when " + state, state.made(), state == State.HALTED ? 18 : 9);
            Refused.index("top(1) when " + state, state::made, x -> x.top(1));
        }
        Refused.index("top(5) of five", () -> Due.run(7, 0, 0, "CONST 1, DUP, DUP, DUP, DUP, DUP, DROP, HALT"),
            x -> x.top(5));
    }
}
