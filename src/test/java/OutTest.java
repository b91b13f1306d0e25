/** Promises 8 and 9: outs and out, in the interpreter and in traces. */
final class OutTest {
    private static final int[] UPWARD = {
        Due.LOAD, 0, Due.OUT, 0, Due.LOAD, 0, Due.CONST, 1, Due.ADD, 0, Due.STORE, 0, Due.GOTO, 0};

    public static void main(String[] args) {
        fewerThanThirty();
        moreThanThirty(true);
        moreThanThirty(false);
        outsBeforeAGuardStay();
        Due.finish();
    }

    private static void fewerThanThirty() {
        TraceTier x = Due.begun(50, 0, UPWARD);
        Due.index("out(0) of nothing", () -> x.out(0));
        x.run(9);
        Due.same("outs()", x.outs(), 2);
        Due.same("out(0)", x.out(0), 51);
        Due.same("out(1)", x.out(1), 50);
        Due.index("out(2)", () -> x.out(2));
        Due.index("out(-1)", () -> x.out(-1));
    }

    private static void moreThanThirty(boolean tier) {
        TraceTier x = Due.with(UPWARD);
        x.begin(0, 0, tier);
        x.run(28);
        Due.same("four rounds", x.outs(), 4);
        int given = 4;
        for (int r = 0; r < 40; r++) {
            x.run(tier ? 1 : 7);
            given++;
            Due.same("outs()", x.outs(), given);
            Due.same("out(0)", x.out(0), given - 1);
            int oldest = Math.min(30, given) - 1;
            Due.same("the oldest that is kept", x.out(oldest), given - 1 - oldest);
            Due.index("one older", () -> x.out(oldest + 1));
        }
        Due.same("out(29)", x.out(29), 44 - 30);
        Due.index("out(30)", () -> x.out(30));
        Due.index("out(MAX)", () -> x.out(Integer.MAX_VALUE));
        Due.index("out(MIN)", () -> x.out(Integer.MIN_VALUE));
        Due.same("whole turns", x.count(2), tier ? 40 : 0);
    }

    private static void outsBeforeAGuardStay() {
        TraceTier x = Due.begun(5, 0,
            Due.CONST, 7, Due.OUT, 0, Due.LOAD, 0, Due.IF, 5, Due.HALT, 0, Due.CONST, 8, Due.OUT, 0,
            Due.LOAD, 0, Due.CONST, 1, Due.SUB, 0, Due.STORE, 0, Due.GOTO, 0);
        x.run(4 * 11);
        Due.same("outs behind four rounds", x.outs(), 8);
        Due.trace("outs are not shared", x, 0, 0, 0, 1, 1, 2, 5);
        x.run(1);
        Due.same("outs behind a whole turn", x.outs(), 10);
        Due.same("out(0)", x.out(0), 8);
        Due.same("out(1)", x.out(1), 7);
        x.run(1);
        Due.same("left", x.count(3), 1);
        Due.same("outs behind a turn that is left", x.outs(), 11);
        Due.same("out(0)", x.out(0), 7);
        Due.same("work: a whole turn of 4, and 2 more", x.count(4), 6);
    }
}
