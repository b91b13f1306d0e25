/** Promises 6 and 7: local and top, by the interpreter and made again from a picture. */
final class LocalTopTest {
    public static void main(String[] args) {
        edges();
        stackOfAPicture();
        localsOfAPicture();
        nextValuesAllAtOnce();
        Due.finish();
    }

    private static void edges() {
        TraceTier x = Due.begun(-8, 9,
            Due.CONST, 1, Due.CONST, 2, Due.CONST, 3, Due.CONST, 4, Due.CONST, 5, Due.CONST, 6, Due.HALT, 0);
        Due.same("local(0)", x.local(0), -8);
        Due.same("local(1)", x.local(1), 9);
        Due.same("local(5)", x.local(5), 0);
        Due.index("local(-1)", () -> x.local(-1));
        Due.index("local(6)", () -> x.local(6));
        Due.index("local(MIN)", () -> x.local(Integer.MIN_VALUE));
        Due.index("top(0) of nothing", () -> x.top(0));
        x.run(500);
        for (int k = 0; k < 6; k++) {
            Due.same("top(" + k + ")", x.top(k), 6 - k);
        }
        Due.index("top(6)", () -> x.top(6));
        Due.index("top(-1)", () -> x.top(-1));
        Due.index("top(MAX)", () -> x.top(Integer.MAX_VALUE));
    }

    private static void stackOfAPicture() {
        TraceTier x = Due.begun(6, 100,
            Due.LOAD, 1, Due.CONST, 77, Due.LOAD, 0, Due.IF, 6, Due.OUT, 0, Due.HALT, 0,
            Due.DROP, 0, Due.CONST, 1, Due.ADD, 0, Due.STORE, 1,
            Due.LOAD, 0, Due.CONST, 1, Due.SUB, 0, Due.STORE, 0, Due.GOTO, 0);
        x.run(4 * 13 + 2);
        Due.counts("two turns", x, 0, 52, 2, 0, 6, 1, 0);
        Due.same("local 0 behind two turns", x.local(0), 0);
        Due.index("nothing on the stack between turns", () -> x.top(0));
        x.run(1);
        Due.counts("left", x, 4, 52, 2, 1, 7, 1, 0);
        Due.same("top(0) from the picture", x.top(0), 77);
        Due.same("top(1) from the picture", x.top(1), 106);
        Due.index("top(2)", () -> x.top(2));
        Due.same("to the end", x.run(9), 2);
        Due.same("out", x.out(0), 77);
        Due.same("the rest of the stack", x.top(0), 106);
    }

    private static void localsOfAPicture() {
        TraceTier x = Due.begun(6, 0,
            Due.CONST, 5, Due.STORE, 2, Due.LOAD, 0, Due.CONST, 10, Due.MUL, 0, Due.STORE, 3, Due.LOAD, 0, Due.IF, 9,
            Due.HALT, 0, Due.CONST, 0, Due.STORE, 2, Due.CONST, 0, Due.STORE, 3,
            Due.LOAD, 0, Due.CONST, 1, Due.SUB, 0, Due.STORE, 0, Due.GOTO, 0);
        x.run(4 * 17 + 2);
        Due.same("two turns", x.count(2), 2);
        Due.same("local 2 behind a turn", x.local(2), 0);
        x.run(1);
        Due.same("left", x.count(3), 1);
        Due.same("local 2 from the picture", x.local(2), 5);
        Due.same("local 3 from the picture", x.local(3), 0);
        Due.trace("the picture's product is needed", x, 0, 0, 0, 2, 1, 0, 3);
    }

    private static void nextValuesAllAtOnce() {
        TraceTier x = Due.begun(3, 4, Due.LOAD, 0, Due.LOAD, 1, Due.STORE, 0, Due.STORE, 1, Due.GOTO, 0);
        x.run(20);
        Due.trace("a swap of locals", x, 0, 0, 0, 0, 0, 0, 4);
        Due.same("local 0 behind four rounds", x.local(0), 3);
        x.run(1);
        Due.same("local 0 behind a turn", x.local(0), 4);
        Due.same("local 1 behind a turn", x.local(1), 3);
        x.run(1);
        Due.same("local 0 behind two", x.local(0), 3);
        Due.counts("no work at all", x, 0, 20, 2, 0, 0, 1, 0);
    }
}
