/** Promise 8: outs. */
final class OutsTest {
    private static final String UPWARD = "LOAD 0, OUT, LOAD 0, CONST 1, ADD, STORE 0, GOTO 0";

    public static void main(String[] args) {
        Due.test("How many numbers were given out: none", OutsTest::none);
        Due.test("How many numbers were given out: by the interpreter", OutsTest::byTheInterpreter);
        Due.test("How many numbers were given out: by traces", OutsTest::byTraces);
        Due.test("How many numbers were given out: more than the 30 that out tells", OutsTest::moreThanThirty);
        Due.test("How many numbers were given out: in a turn that is left, those before the guard", OutsTest::leftTurn);
        Due.finish();
    }

    private static void none() {
        Due.same("new", new TraceTier().outs(), 0);
        Due.same("with code", Due.with("CONST 1, OUT, HALT").outs(), 0);
        Due.same("begun", Due.begun(0, 0, "CONST 1, OUT, HALT").outs(), 0);
        Due.same("before OUT", Due.run(1, 0, 0, "CONST 1, OUT, HALT").outs(), 0);
    }

    private static void byTheInterpreter() {
        TraceTier x = Due.run(2, 0, 0, "CONST 1, OUT, CONST 1, OUT, HALT");
        Due.same("one", x.outs(), 1);
        x.run(2);
        Due.same("the same number again", x.outs(), 2);
        x.run(1);
        Due.same("halted", x.outs(), 2);
    }

    private static void byTraces() {
        TraceTier x = Due.run(28, 0, 0, UPWARD);
        Due.same("four rounds", x.outs(), 4);
        for (int turn = 1; turn <= 5; turn++) {
            x.run(1);
            Due.same("a turn", x.outs(), 4 + turn);
        }
    }

    private static void moreThanThirty() {
        for (int tier = 0; tier < 2; tier++) {
            TraceTier x = Due.with(UPWARD);
            x.begin(0, 0, tier == 1);
            int given = 4;
            x.run(28);
            for (; given < 70; given++) {
                Due.same("given out", x.outs(), given);
                x.run(tier == 1 ? 1 : 7);
            }
            Due.same("given out", x.outs(), 70);
        }
    }

    private static void leftTurn() {
        String code = "CONST 7, OUT, LOAD 0, IF 5, HALT, CONST 8, OUT, LOAD 0, CONST 1, SUB, STORE 0, GOTO 0";
        TraceTier x = Due.run(4 * 11 + 1, 5, 0, code);
        Due.same("five rounds of two", x.outs(), 10);
        x.run(1);
        Due.same("left", x.count(3), 1);
        Due.same("one before the guard", x.outs(), 11);
    }
}
