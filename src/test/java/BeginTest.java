/** Promise 3: begin. Which code is sound is asked by SoundTest. */
final class BeginTest {
    /** Leaves six on the stack, all locals changed, and something given out. */
    private static final String LEAVES_MUCH = "CONST 11, STORE 2, CONST 12, STORE 3, CONST 13, STORE 4, CONST 14, "
        + "STORE 5, CONST 15, STORE 0, CONST 16, STORE 1, CONST 5, OUT, CONST 1, DUP, DUP, DUP, DUP, DUP, HALT";

    public static void main(String[] args) {
        Due.test("Begins the program: A PROGRAM runs from instruction 0.", BeginTest::fromInstructionZero);
        Due.test("all locals 0 but 0 and 1, which are a and b", BeginTest::locals);
        Due.test("nothing on the stack", BeginTest::nothingOnTheStack);
        Due.test("nothing [..] given out", BeginTest::nothingGivenOut);
        Due.test("nothing [..] counted", BeginTest::nothingCounted);
        Due.test("nothing [..] counted: nothing is given up either", BeginTest::nothingGivenUp);
        Due.test("nothing [..] recorded", BeginTest::nothingRecorded);
        Due.test("no traces", BeginTest::noTraces);
        Due.test("(also when it was begun before): in every state it is as on a new object", BeginTest::asOnANewObject);
        Due.test("With tier false no count ever grows.", BeginTest::tierFalse);
        Due.test("With tier false: not the one that was before, either", BeginTest::tierOfThisProgram);
        Due.test("Answers whether it was begun before.", BeginTest::begunBefore);
        Due.test("IllegalArgumentException [..] (nothing changes)", BeginTest::refused);
        Due.finish();
    }

    private static void fromInstructionZero() {
        TraceTier x = Due.with("CONST 3, OUT, HALT");
        x.begin(0, 0, true);
        Due.same("the next instruction", x.count(0), 0);
        x.run(500);
        x.begin(0, 0, true);
        Due.same("the next one behind HALT", x.count(0), 0);
        Due.same("it runs again", x.run(500), 3);
        x.begin(0, 0, true);
        x.run(1);
        x.begin(0, 0, true);
        Due.same("in the midst", x.count(0), 0);
    }

    private static void locals() {
        TraceTier x = Due.with(LEAVES_MUCH);
        x.begin(Integer.MIN_VALUE, Integer.MAX_VALUE, true);
        Due.locals("begun", x, Integer.MIN_VALUE, Integer.MAX_VALUE, 0, 0, 0, 0);
        x.run(500);
        Due.locals("run", x, 15, 16, 11, 12, 13, 14);
        x.begin(-1, 0, true);
        Due.locals("begun again", x, -1, 0, 0, 0, 0, 0);
    }

    private static void nothingOnTheStack() {
        TraceTier x = Due.with(LEAVES_MUCH);
        x.begin(0, 0, true);
        x.run(500);
        Due.same("a number on the stack", x.top(5), 1);
        x.begin(0, 0, true);
        Due.stack("begun again", x);
    }

    private static void nothingGivenOut() {
        TraceTier x = Due.with("LOAD 0, OUT, LOAD 1, OUT, HALT");
        x.begin(3, 4, true);
        x.run(500);
        Due.outs("run", x, 4, 3);
        x.begin(5, 6, true);
        Due.outs("begun again", x);
        Due.index("out(0)", x, y -> y.out(0));
        x.run(2);
        Due.outs("the first one again", x, 5);
        Due.index("out(1)", x, y -> y.out(1));
    }

    private static void nothingCounted() {
        TraceTier x = Due.with("LOAD 0, DROP, GOTO 0");
        x.begin(1, 1, true);
        x.run(6);
        Due.place("two jumps", x, 0, 2, 0);
        x.begin(1, 1, true);
        Due.place("begun again", x, 0, 0, 0);
        Due.counts("begun again", x, 0, 0, 0, 0, 0, 0, 0);
        x.run(8);
        Due.place("two jumps again, and two steps", x, 0, 2, 0);
        Due.same("nothing recorded", x.count(6), 0);
        x.run(1);
        Due.same("recorded at the third", x.count(6), 1);
    }

    private static void nothingGivenUp() {
        TraceTier x = Due.with("LOAD 0, CONST 1, SUB, DUP, STORE 0, IF 0, HALT");
        x.begin(4, 0, true);
        x.run(500);
        Due.place("given up by HALT", x, 0, 3, 2);
        x.begin(9, 0, true);
        Due.place("begun again", x, 0, 0, 0);
        x.run(24);
        Due.place("a trace this time", x, 0, 3, 1);
    }

    private static void nothingRecorded() {
        TraceTier x = Due.with("LOAD 0, DROP, GOTO 0");
        x.begin(1, 1, true);
        x.run(10);
        Due.same("recorded", x.count(6), 1);
        x.begin(1, 1, true);
        Due.same("begun again", x.count(6), 0);
        x.run(3);
        Due.counts("one round, without a trace", x, 0, 3, 0, 0, 0, 0, 0);
    }

    private static void noTraces() {
        TraceTier x = State.WHOLE_TURN.made();
        Due.same("a trace", x.count(5), 1);
        x.begin(8, 3, true);
        Due.same("no trace", x.count(5), 0);
        Due.index("trace(0, 0)", x, y -> y.trace(0, 0));
        Due.place("begun again", x, 0, 0, 0);
        x.run(1);
        Due.counts("an instruction, no turn", x, 1, 1, 0, 0, 0, 0, 0);
    }

    private static void asOnANewObject() {
        int[] steps = {1, 38, 44, 52, 53, 55, 56, 500};
        for (State state : State.values()) {
            for (int n : steps) {
                if (state.isBegun()) {
                    TraceTier x = state.made();
                    x.begin(8, 3, true);
                    Due.same("begun when " + state, Shown.of(x), Shown.of(State.BEGUN.made()));
                    x.run(n);
                    TraceTier fresh = State.BEGUN.made();
                    fresh.run(n);
                    Due.same("begun when " + state + ", " + n + " steps", Shown.of(x), Shown.of(fresh));
                }
            }
        }
    }

    private static void tierFalse() {
        String[] loops = {"GOTO 0", "CONST 1, DROP, GOTO 0", "CONST 1, IF 0, HALT", "CONST 5, DUP, DROP, GOTO 1"};
        for (String code : loops) {
            TraceTier x = Due.with(code);
            x.begin(0, 0, false);
            for (int step = 1; step <= 100; step++) {
                Due.same(code + ": a step", x.run(1), 1);
                Due.same(code + ": recorded", x.count(6), 0);
            }
            Due.same(code + ": instructions", x.count(1), 100);
            Due.same(code + ": traces", x.count(5), 0);
            for (int i = 0; i < Due.size(code); i++) {
                Due.place(code, x, i, 0, 0);
            }
        }
    }

    private static void tierOfThisProgram() {
        TraceTier x = Due.with("LOAD 0, DROP, GOTO 0");
        x.begin(0, 0, false);
        x.run(100);
        x.begin(0, 0, true);
        x.run(100);
        Due.same("a tier behind none", x.count(5), 1);
        x.begin(0, 0, false);
        x.run(100);
        Due.same("none behind a tier", x.count(5), 0);
        Due.place("none behind a tier", x, 0, 0, 0);
        x.clear();
        Due.append(x, "LOAD 0, DROP, GOTO 0");
        x.begin(0, 0, true);
        x.run(100);
        Due.same("a tier behind clear", x.count(5), 1);
    }

    private static void begunBefore() {
        TraceTier x = Due.with("GOTO 0");
        Due.isFalse("the first time", x.begin(0, 0, true));
        Due.isTrue("the second time", x.begin(0, 0, false));
        x.run(9);
        Due.isTrue("behind steps", x.begin(0, 0, true));
        for (State state : State.values()) {
            if (state == State.CODED || state.isBegun()) {
                Due.same("when " + state, state.made().begin(1, 2, true) ? 1 : 0, state.isBegun() ? 1 : 0);
            }
        }
        x.clear();
        x.add(Due.HALT, 0);
        Due.isFalse("behind clear", x.begin(0, 0, true));
        TraceTier y = Due.with("CONST 1");
        Due.throwsExactly("unsound", y, z -> z.begin(0, 0, true), IllegalArgumentException.class);
        y.add(Due.HALT, 0);
        Due.isFalse("behind a refused one", y.begin(0, 0, true));
    }

    private static void refused() {
        Refused.argument("unsound", State.UNSOUND::made, x -> x.begin(4, 5, true));
        Refused.argument("no code", State.NEW::made, x -> x.begin(4, 5, true));
        Refused.argument("no code behind clear", State.CLEARED::made, x -> x.begin(4, 5, false));
        TraceTier x = State.UNSOUND.made();
        Due.throwsExactly("begin", x, y -> y.begin(4, 5, true), IllegalArgumentException.class);
        Due.locals("a and b are not taken", x, 0, 0, 0, 0, 0, 0);
        Due.same("not begun", x.count(0), TraceTier.NONE);
        Due.throwsExactly("run", x, y -> y.run(1), IllegalStateException.class);
    }
}
