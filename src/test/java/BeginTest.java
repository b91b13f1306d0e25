/** Promise 3: begin, and which code is sound. */
final class BeginTest {
    public static void main(String[] args) {
        whatIsSound();
        whatIsNot();
        fullCode();
        codeOfBeforeIsForgotten();
        refusedBeginChangesNothing();
        beginsAnew();
        tracesAnew();
        tierFalse();
        Due.finish();
    }

    private static void sound(String what, int... code) {
        Due.isTrue(what + " is sound, and new", !Due.with(code).begin(1, 2, true));
    }

    private static void unsound(String what, int... code) {
        TraceTier x = Due.with(code);
        Due.argument(what, () -> x.begin(1, 2, true));
        Due.state(what + ": run", () -> x.run(1));
        Due.same(what + ": local(0)", x.local(0), 0);
    }

    private static void whatIsSound() {
        sound("HALT", Due.HALT, 0);
        sound("HALT with a number left", Due.CONST, 1, Due.HALT, 0);
        sound("six on the stack", Due.CONST, 1, Due.CONST, 1, Due.CONST, 1, Due.CONST, 1, Due.CONST, 1, Due.CONST, 1, Due.HALT, 0);
        sound("six by DUP, and SWAP at six", Due.CONST, 1, Due.DUP, 0, Due.DUP, 0, Due.DUP, 0, Due.DUP, 0, Due.DUP, 0, Due.SWAP, 0, Due.HALT, 0);
        sound("what can't be reached is not looked at", Due.GOTO, 3, Due.ADD, 0, Due.GOTO, 39, Due.HALT, 0);
        sound("a last instruction that can't be reached", Due.HALT, 0, Due.CONST, 1);
        sound("a GOTO to itself", Due.GOTO, 0);
        sound("IF to the next one", Due.CONST, 1, Due.IF, 2, Due.HALT, 0);
        sound("a GOTO back as the last one", Due.LOAD, 0, Due.DROP, 0, Due.GOTO, 0);
        sound("two ways of the same depth", Due.LOAD, 0, Due.IF, 4, Due.CONST, 1, Due.GOTO, 5, Due.CONST, 2, Due.OUT, 0, Due.HALT, 0);
    }

    private static void whatIsNot() {
        unsound("no instructions");
        unsound("a way behind the last one", Due.CONST, 1);
        unsound("an IF as the last one", Due.CONST, 1, Due.IF, 0);
        unsound("GOTO behind the last one", Due.GOTO, 1);
        unsound("IF behind the last one", Due.CONST, 0, Due.IF, 3, Due.HALT, 0);
        int[] takers = {Due.STORE, Due.DUP, Due.DROP, Due.OUT, Due.IF};
        for (int taker : takers) {
            unsound("operation " + taker + " with nothing", taker, 1, Due.HALT, 0);
        }
        int[] pairTakers = {Due.ADD, Due.SUB, Due.MUL, Due.AND, Due.LESS, Due.EQUAL, Due.SWAP};
        for (int taker : pairTakers) {
            unsound("operation " + taker + " with one", Due.CONST, 1, taker, 0, Due.HALT, 0);
        }
        unsound("seven on the stack", Due.CONST, 1, Due.CONST, 1, Due.CONST, 1, Due.CONST, 1, Due.CONST, 1, Due.CONST, 1, Due.LOAD, 1, Due.HALT, 0);
        unsound("seven by DUP", Due.CONST, 1, Due.DUP, 0, Due.DUP, 0, Due.DUP, 0, Due.DUP, 0, Due.DUP, 0, Due.DUP, 0, Due.HALT, 0);
        unsound("not 0 before the first one", Due.CONST, 1, Due.GOTO, 0);
        unsound("two depths before one", Due.LOAD, 0, Due.IF, 3, Due.CONST, 1, Due.HALT, 0);
        unsound("a way that is never gone", Due.CONST, 1, Due.IF, 3, Due.ADD, 0, Due.HALT, 0);
    }

    private static void fullCode() {
        TraceTier x = new TraceTier();
        for (int i = 0; i < 20; i++) {
            Due.append(x, Due.LOAD, 0, Due.DROP, 0);
        }
        Due.argument("a way behind the fortieth", () -> x.begin(0, 0, true));
        x.clear();
        for (int i = 0; i < 19; i++) {
            Due.append(x, Due.LOAD, 0, Due.DROP, 0);
        }
        Due.append(x, Due.GOTO, 39, Due.GOTO, 0);
        Due.isTrue("forty that can all be reached", !x.begin(0, 0, true));
        Due.same("they run", x.run(500), 500);
        Due.place("too long a loop", x, 0, 3, 2);
    }

    private static void codeOfBeforeIsForgotten() {
        TraceTier x = Due.with(Due.HALT, 0, Due.HALT, 0, Due.HALT, 0);
        x.clear();
        x.add(Due.CONST, 1);
        Due.argument("no HALT behind it any more", () -> x.begin(0, 0, true));
    }

    private static void refusedBeginChangesNothing() {
        TraceTier x = Due.with(Due.CONST, 1);
        Due.argument("unsound at first", () -> x.begin(4, 5, true));
        Due.same("still open to add", x.add(Due.HALT, 0), 2);
        Due.isTrue("not begun before", !x.begin(4, 5, true));
    }

    private static void beginsAnew() {
        TraceTier x = Due.with(
            Due.LOAD, 0, Due.DUP, 0, Due.OUT, 0, Due.CONST, 1, Due.SUB, 0, Due.DUP, 0, Due.STORE, 0, Due.IF, 0, Due.CONST, 9, Due.STORE, 4, Due.CONST, 3, Due.HALT, 0);
        Due.isTrue("first begin", !x.begin(20, -3, true));
        Due.counts("begun", x, 0, 0, 0, 0, 0, 0, 0);
        Due.same("local 0", x.local(0), 20);
        Due.same("local 1", x.local(1), -3);
        x.run(500);
        Due.same("a trace", x.count(5), 1);
        Due.same("something on the stack", x.top(0), 3);
        Due.isTrue("second begin", x.begin(2, 8, true));
        Due.counts("begun again", x, 0, 0, 0, 0, 0, 0, 0);
        Due.same("local 0", x.local(0), 2);
        Due.same("local 1", x.local(1), 8);
        Due.same("local 4", x.local(4), 0);
        Due.same("outs", x.outs(), 0);
        Due.index("out(0)", () -> x.out(0));
        Due.index("top(0)", () -> x.top(0));
        Due.index("trace(0, 0)", () -> x.trace(0, 0));
        Due.place("begun again", x, 0, 0, 0);
        Due.same("it runs from instruction 0", x.run(500), 20);
        Due.isTrue("third begin, behind HALT", x.begin(6, 0, true));
        x.run(26);
        Due.same("recorded", x.count(6), 1);
        Due.isTrue("fourth begin, in a recording", x.begin(6, 0, true));
        Due.same("nothing recorded", x.count(6), 0);
        Due.place("nothing counted", x, 0, 0, 0);
    }

    /** Three programs on one object: nothing of an earlier trace is in a later one. */
    private static void tracesAnew() {
        TraceTier x = Due.with(
            Due.LOAD, 0, Due.LOAD, 1, Due.MUL, 0, Due.OUT, 0, Due.LOAD, 2, Due.CONST, 1, Due.ADD, 0, Due.STORE, 2, Due.GOTO, 0);
        for (int times = 0; times < 3; times++) {
            x.begin(6, 7, true);
            x.run(36);
            Due.trace("begun " + times, x, 0, 0, 1, 1, 0, 1, 5);
            x.run(2);
            Due.counts("begun " + times, x, 0, 36, 2, 0, 5, 1, 0);
            Due.same("begun " + times + ": local 2", x.local(2), 6);
        }
        x.clear();
        Due.append(x, Due.LOAD, 0, Due.LOAD, 1, Due.MUL, 0, Due.DROP, 0, Due.GOTO, 0);
        x.begin(6, 7, true);
        x.run(20);
        Due.trace("what was needed before is not needed now", x, 0, 0, 0, 0, 0, 0, 6);
        x.run(3);
        Due.counts("no work", x, 0, 20, 3, 0, 0, 1, 0);
    }

    private static void tierFalse() {
        TraceTier x = Due.with(Due.CONST, 1, Due.DROP, 0, Due.GOTO, 0);
        x.begin(0, 0, false);
        Due.same("tier false: run", x.run(500), 500);
        Due.counts("tier false", x, 2, 500, 0, 0, 0, 0, 0);
        Due.place("tier false", x, 0, 0, 0);
        Due.isTrue("again with a tier", x.begin(0, 0, true));
        x.run(500);
        Due.same("tier true: traces", x.count(5), 1);
        Due.isTrue("again without", x.begin(0, 0, false));
        x.run(500);
        Due.same("no traces again", x.count(5), 0);
    }
}
