/** Promise 5: clear. */
final class ClearTest {
    private static final int[] CODE = {
        Due.LOAD, 1, Due.LOAD, 0, Due.IF, 4, Due.HALT, 0, Due.OUT, 0, Due.LOAD, 0, Due.CONST, 1, Due.SUB, 0,
        Due.STORE, 0, Due.LOAD, 1, Due.STORE, 3, Due.GOTO, 0};

    public static void main(String[] args) {
        clearBehindARun(9, 500);
        clearBehindARun(9, 37);
        clearOfCodeThatWasNotBegun();
        Due.finish();
    }

    private static void clearBehindARun(int a, int steps) {
        TraceTier x = Due.begun(a, 5, CODE);
        x.run(steps);
        Due.same("clear()", x.clear(), CODE.length / 2);
        Due.counts("cleared", x, TraceTier.NONE, 0, 0, 0, 0, 0, 0);
        for (int l = 0; l < 6; l++) {
            Due.same("cleared: local(" + l + ")", x.local(l), 0);
        }
        Due.same("cleared: outs()", x.outs(), 0);
        Due.index("cleared: out(0)", () -> x.out(0));
        Due.index("cleared: top(0)", () -> x.top(0));
        Due.index("cleared: place(0, 0)", () -> x.place(0, 0));
        Due.index("cleared: trace(0, 0)", () -> x.trace(0, 0));
        Due.state("cleared: run(1)", () -> x.run(1));
        Due.argument("cleared: begin", () -> x.begin(1, 1, true));
        Due.same("cleared twice", x.clear(), 0);
        Due.append(x, CODE);
        Due.place("the same code anew", x, 0, 0, 0);
        Due.isTrue("not begun before", !x.begin(a, 5, true));
        x.run(500);
        Due.same("the same program anew", x.outs(), a);
        Due.same("it has halted", x.count(0), TraceTier.NONE);
        Due.same("with a trace", x.count(5), 1);
    }

    private static void clearOfCodeThatWasNotBegun() {
        TraceTier x = Due.with(Due.ADD, 0, Due.ADD, 0, Due.ADD, 0);
        Due.same("clear()", x.clear(), 3);
        Due.same("add", x.add(Due.HALT, 0), 1);
        Due.isTrue("sound now", !x.begin(0, 0, true));
    }
}
