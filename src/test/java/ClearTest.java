/** Promise 5: clear. */
final class ClearTest {
    private static final String LEAVES_MUCH = "LOAD 0, OUT, CONST 11, STORE 2, CONST 12, STORE 5, CONST 7, CONST 8, HALT";

    public static void main(String[] args) {
        Due.test("how many instructions there were", ClearTest::howManyThereWere);
        Due.test("No code", ClearTest::noCode);
        Due.test("not begun", ClearTest::notBegun);
        Due.test("locals 0", ClearTest::locals);
        Due.test("nothing on the stack", ClearTest::nothingOnTheStack);
        Due.test("nothing [..] given out", ClearTest::nothingGivenOut);
        Due.test("nothing [..] counted", ClearTest::nothingCounted);
        Due.test("no traces", ClearTest::noTraces);
        Due.test("all as at first: nothing recorded", ClearTest::nothingRecorded);
        Due.test("all as at first: in every state it is as a new object", ClearTest::asANewObject);
        Due.finish();
    }

    private static void howManyThereWere() {
        Due.same("of a new one", new TraceTier().clear(), 0);
        Due.same("of one", Due.with("ADD").clear(), 1);
        TraceTier x = new TraceTier();
        for (int i = 0; i < 40; i++) {
            x.add(Due.HALT, 0);
        }
        Due.same("of forty", x.clear(), 40);
        Due.same("of none", x.clear(), 0);
        for (State state : State.values()) {
            int due = state == State.UNSOUND ? 3 : state.hasCode() ? Due.size(State.CODE) : 0;
            Due.same("when " + state, state.made().clear(), due);
        }
    }

    private static void noCode() {
        TraceTier x = Due.begun(1, 2, LEAVES_MUCH);
        x.clear();
        Due.index("place(0, 0)", x, y -> y.place(0, 0));
        Due.throwsExactly("begin", x, y -> y.begin(1, 2, true), IllegalArgumentException.class);
        Due.same("the first instruction", x.add(Due.GOTO, 1), 1);
        Due.index("place(1, 0)", x, y -> y.place(1, 0));
        Due.throwsExactly("what was behind it is gone", x, y -> y.begin(1, 2, true), IllegalArgumentException.class);
    }

    private static void notBegun() {
        for (State state : State.values()) {
            TraceTier x = state.made();
            x.clear();
            Due.same("when " + state + ": the next instruction", x.count(0), TraceTier.NONE);
            Due.throwsExactly("when " + state + ": run(1)", x, y -> y.run(1), IllegalStateException.class);
            Due.same("when " + state + ": add", x.add(Due.HALT, 0), 1);
            Due.isFalse("when " + state + ": begun before", x.begin(1, 2, true));
            Due.same("when " + state + ": it has not halted", x.run(5), 1);
        }
    }

    private static void locals() {
        TraceTier x = Due.run(9, 3, 4, LEAVES_MUCH);
        Due.locals("run", x, 3, 4, 11, 0, 0, 12);
        x.clear();
        Due.locals("cleared", x, 0, 0, 0, 0, 0, 0);
    }

    private static void nothingOnTheStack() {
        TraceTier x = Due.run(9, 3, 4, LEAVES_MUCH);
        Due.stack("run", x, 8, 7);
        x.clear();
        Due.stack("cleared", x);
    }

    private static void nothingGivenOut() {
        TraceTier x = Due.run(9, 3, 4, LEAVES_MUCH);
        Due.outs("run", x, 3);
        x.clear();
        Due.outs("cleared", x);
        Due.index("out(0)", x, y -> y.out(0));
    }

    private static void nothingCounted() {
        TraceTier x = Due.run(6, 3, 4, "LOAD 0, DROP, GOTO 0");
        Due.place("two jumps", x, 0, 2, 0);
        x.clear();
        Due.counts("cleared", x, TraceTier.NONE, 0, 0, 0, 0, 0, 0);
        Due.append(x, "LOAD 0, DROP, GOTO 0");
        Due.place("the same code", x, 0, 0, 0);
        TraceTier y = Due.run(30, 3, 4, "CONST 5, DUP, DROP, GOTO 1");
        Due.place("given up", y, 1, 3, 2);
        y.clear();
        Due.append(y, "CONST 5, DUP, DROP, GOTO 1");
        Due.place("nothing given up", y, 1, 0, 0);
    }

    private static void noTraces() {
        TraceTier x = State.WHOLE_TURN.made();
        x.clear();
        Due.same("traces", x.count(5), 0);
        Due.index("trace(0, 0)", x, y -> y.trace(0, 0));
        Due.append(x, State.CODE);
        Due.place("the same code", x, 0, 0, 0);
        x.begin(8, 3, true);
        x.run(1);
        Due.counts("an instruction, no turn", x, 1, 1, 0, 0, 0, 0, 0);
    }

    private static void nothingRecorded() {
        TraceTier x = State.RECORDED.made();
        Due.same("recorded", x.count(6), 1);
        x.clear();
        Due.same("cleared", x.count(6), 0);
        Due.append(x, "LOAD 0, DROP, GOTO 0");
        x.begin(8, 3, true);
        x.run(3);
        Due.counts("one round, without a trace", x, 0, 3, 0, 0, 0, 0, 0);
    }

    private static void asANewObject() {
        for (State state : State.values()) {
            TraceTier x = state.made();
            x.clear();
            Due.same("cleared when " + state, Shown.of(x), Shown.of(new TraceTier()));
            Due.append(x, State.CODE);
            x.begin(8, 3, true);
            x.run(54);
            Due.same("run anew when " + state, Shown.of(x), Shown.of(State.WHOLE_TURN.made()));
        }
    }
}
