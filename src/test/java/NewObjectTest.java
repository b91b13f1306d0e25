/** Promise 1: a new object has no code, and all is as at first. */
final class NewObjectTest {
    public static void main(String[] args) {
        TraceTier x = new TraceTier();
        Due.counts("new", x, TraceTier.NONE, 0, 0, 0, 0, 0, 0);
        for (int l = 0; l < 6; l++) {
            Due.same("new: local(" + l + ")", x.local(l), 0);
        }
        Due.same("new: outs()", x.outs(), 0);
        Due.index("new: top(0)", () -> x.top(0));
        Due.index("new: out(0)", () -> x.out(0));
        Due.index("new: place(0, 0)", () -> x.place(0, 0));
        Due.index("new: trace(0, 0)", () -> x.trace(0, 0));
        Due.state("new: run(1)", () -> x.run(1));
        Due.argument("new: begin", () -> x.begin(0, 0, true));
        Due.same("new: clear()", x.clear(), 0);
        Due.same("NONE", TraceTier.NONE, -1);
        twoObjectsShareNothing();
        Due.finish();
    }

    private static void twoObjectsShareNothing() {
        TraceTier one = Due.begun(7, 0, Due.LOAD, 0, Due.OUT, 0, Due.HALT, 0);
        one.run(3);
        TraceTier two = new TraceTier();
        Due.same("another object: outs()", two.outs(), 0);
        Due.same("another object: local(0)", two.local(0), 0);
        Due.same("another object: clear()", two.clear(), 0);
        Due.same("the first object: out(0)", one.out(0), 7);
    }
}
