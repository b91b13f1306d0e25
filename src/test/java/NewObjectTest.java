/** Promise 1: a new object; and what the document says of every object. */
final class NewObjectTest {
    public static void main(String[] args) {
        Due.test("TraceTier(): No code.", NewObjectTest::noCode);
        Due.test("LOCALS 0 .. 5 are ints, 0 at first", NewObjectTest::localsAtFirst);
        Due.test("No code: nothing that was run, counted, given out or recorded either", NewObjectTest::nothingElse);
        Due.test("NONE = -1: Nothing there.", () -> Due.same("NONE", TraceTier.NONE, -1));
        Due.test("An object is used for at most 512 calls", NewObjectTest::theFiveHundredAndTwelfthCall);
        Due.test("A new object has nothing of another one", NewObjectTest::twoObjects);
        Due.finish();
    }

    private static void noCode() {
        Due.index("place(0, 0)", new TraceTier(), x -> x.place(0, 0));
        Due.same("clear()", new TraceTier().clear(), 0);
        Due.same("the first instruction", new TraceTier().add(Due.HALT, 0), 1);
    }

    private static void localsAtFirst() {
        Due.locals("new", new TraceTier(), 0, 0, 0, 0, 0, 0);
        Due.locals("with code", Due.with("HALT"), 0, 0, 0, 0, 0, 0);
    }

    private static void nothingElse() {
        TraceTier x = new TraceTier();
        Due.counts("new", x, TraceTier.NONE, 0, 0, 0, 0, 0, 0);
        Due.stack("new", x);
        Due.outs("new", x);
        Due.index("out(0)", x, y -> y.out(0));
        Due.index("trace(0, 0)", x, y -> y.trace(0, 0));
    }

    /** As many outs as 512 calls can give: each call is answered, and nothing has run over. */
    private static void theFiveHundredAndTwelfthCall() {
        TraceTier x = new TraceTier();
        for (int out = 0; out < 14; out++) {
            Due.append(x, "CONST 5, OUT");
        }
        x.add(Due.GOTO, 0);
        x.begin(1, 2, true);
        int calls = 30;
        int due = 0;
        while (calls < 508) {
            x.run(500);
            calls++;
            due += 500;
        }
        int turns = due - 4 * 29;
        Due.same("the 509th call: whole turns", x.count(2), turns);
        Due.same("the 510th call: work", x.count(4), 14 * turns);
        Due.same("the 511th call: outs", x.outs(), 14 * (turns + 4));
        Due.same("the 512th call", x.run(500), 500);
    }

    private static void twoObjects() {
        TraceTier one = State.WHOLE_TURN.made();
        String before = Shown.of(State.WHOLE_TURN.made());
        TraceTier two = new TraceTier();
        Due.same("the second object", Shown.of(two), Shown.of(new TraceTier()));
        Due.append(two, "CONST 1, OUT, GOTO 0");
        two.begin(5, 5, true);
        two.run(100);
        Due.same("the first object", Shown.of(one), before);
    }
}
