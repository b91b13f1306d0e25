/** Promise 4: run, what each operation does, and how many steps are made. */
final class RunTest {
    public static void main(String[] args) {
        operations();
        moves();
        wrongNumbers();
        stepsUntilHalt();
        aLeftTurnIsAStep();
        Due.finish();
    }

    private static void gives(String what, int operation, int a, int b, int want) {
        TraceTier x = Due.begun(a, b, Due.LOAD, 0, Due.LOAD, 1, operation, 0, Due.HALT, 0);
        x.run(3);
        Due.same(what, x.top(0), want);
        Due.index(what + " leaves one", () -> x.top(1));
    }

    private static void operations() {
        gives("ADD", Due.ADD, 3, -5, -2);
        gives("ADD wraps", Due.ADD, Integer.MAX_VALUE, 1, Integer.MIN_VALUE);
        gives("SUB takes b first", Due.SUB, 3, 5, -2);
        gives("SUB wraps", Due.SUB, Integer.MIN_VALUE, 1, Integer.MAX_VALUE);
        gives("MUL", Due.MUL, -7, 6, -42);
        gives("MUL wraps", Due.MUL, 65536, 65537, 65536);
        gives("AND is by bits", Due.AND, 12, 10, 8);
        gives("AND of negatives", Due.AND, -1, -8, -8);
        gives("LESS", Due.LESS, 2, 3, 1);
        gives("LESS of the same", Due.LESS, 3, 3, 0);
        gives("LESS, more", Due.LESS, 4, 3, 0);
        gives("LESS at the edges", Due.LESS, Integer.MIN_VALUE, Integer.MAX_VALUE, 1);
        gives("EQUAL", Due.EQUAL, 1000000, 1000000, 1);
        gives("EQUAL of others", Due.EQUAL, 1, 2, 0);
    }

    private static void moves() {
        TraceTier x = Due.begun(4, 9,
            Due.CONST, -32768, Due.DUP, 0, Due.LOAD, 1, Due.SWAP, 0, Due.STORE, 5, Due.OUT, 0, Due.DROP, 0,
            Due.CONST, 0, Due.IF, 0, Due.CONST, -1, Due.IF, 12, Due.HALT, 0, Due.GOTO, 11);
        x.run(3);
        Due.same("LOAD", x.top(0), 9);
        Due.same("DUP", x.top(1), -32768);
        Due.same("CONST", x.top(2), -32768);
        x.run(1);
        Due.same("SWAP, above", x.top(0), -32768);
        Due.same("SWAP, below", x.top(1), 9);
        x.run(1);
        Due.same("STORE", x.local(5), -32768);
        Due.same("STORE takes", x.top(0), 9);
        x.run(2);
        Due.same("OUT", x.out(0), 9);
        Due.index("OUT and DROP take", () -> x.top(0));
        x.run(2);
        Due.same("IF on 0 goes on", x.count(0), 9);
        x.run(2);
        Due.same("IF on another goes to t", x.count(0), 12);
        x.run(1);
        Due.same("GOTO", x.count(0), 11);
        Due.same("HALT is a step", x.run(500), 1);
        Due.same("halted", x.count(0), TraceTier.NONE);
    }

    private static void wrongNumbers() {
        TraceTier x = Due.with(Due.GOTO, 0);
        Due.argument("run(0) before begin", () -> x.run(0));
        Due.state("run(1) before begin", () -> x.run(1));
        Due.state("run(500) before begin", () -> x.run(500));
        x.begin(0, 0, true);
        Due.argument("run(0)", () -> x.run(0));
        Due.argument("run(-1)", () -> x.run(-1));
        Due.argument("run(501)", () -> x.run(501));
        Due.argument("run(MIN)", () -> x.run(Integer.MIN_VALUE));
        Due.counts("a refused run does nothing", x, 0, 0, 0, 0, 0, 0, 0);
        Due.same("run(500)", x.run(500), 500);
        Due.same("run(1)", x.run(1), 1);
    }

    private static void stepsUntilHalt() {
        TraceTier x = Due.begun(0, 0, Due.CONST, 1, Due.OUT, 0, Due.HALT, 0);
        Due.same("to HALT", x.run(500), 3);
        Due.same("behind HALT", x.run(500), 0);
        Due.argument("run(0) behind HALT", () -> x.run(0));
        Due.same("HALT is an instruction that was done", x.count(1), 3);
        Due.same("nothing more given out", x.outs(), 1);
    }

    private static void aLeftTurnIsAStep() {
        TraceTier x = Due.begun(7, 0, Due.LOAD, 0, Due.CONST, 1, Due.SUB, 0, Due.DUP, 0, Due.STORE, 0, Due.IF, 0, Due.HALT, 0);
        Due.same("four rounds", x.run(24), 24);
        Due.counts("a trace, not yet run", x, 0, 24, 0, 0, 0, 1, 0);
        Due.same("a whole turn", x.run(1), 1);
        Due.counts("a whole turn", x, 0, 24, 1, 0, 2, 1, 0);
        Due.same("another", x.run(1), 1);
        Due.same("the turn that is left", x.run(1), 1);
        Due.counts("left", x, 6, 24, 2, 1, 6, 1, 0);
        Due.same("HALT", x.run(7), 1);
        Due.same("local 0", x.local(0), 0);
    }
}
