/** Promise 12: trace; how values are folded, shared, taken out of the loop or left out. */
final class TraceTest {
    public static void main(String[] args) {
        edges();
        folded();
        shared();
        leftOut();
        takenOut();
        guards();
        pictures();
        outs();
        inOrder();
        Due.finish();
    }

    private static void edges() {
        TraceTier x = Due.begun(0, 0, Due.LOAD, 0, Due.DROP, 0, Due.GOTO, 0);
        Due.index("trace(0, 0) before there is one", () -> x.trace(0, 0));
        x.run(20);
        Due.trace("an empty one", x, 0, 0, 0, 0, 0, 0, 6);
        Due.index("trace(1, 0)", () -> x.trace(1, 0));
        Due.index("trace(-1, 0)", () -> x.trace(-1, 0));
        Due.index("trace(4, 0)", () -> x.trace(4, 0));
        Due.index("trace(MAX, 0)", () -> x.trace(Integer.MAX_VALUE, 0));
        Due.index("trace(0, -1)", () -> x.trace(0, -1));
        Due.index("trace(0, 6)", () -> x.trace(0, 6));
        Due.index("trace(0, MIN)", () -> x.trace(0, Integer.MIN_VALUE));
    }

    /** Runs a straight loop until it has its trace, which begins at 0; locals 0 and 1 are 6, 7. */
    private static TraceTier loop(String what, int[] code, int head, int body, int guards, int outs, int stays) {
        TraceTier x = Due.with(code);
        int size = x.add(Due.GOTO, 0);
        x.begin(6, 7, true);
        x.run(4 * size);
        Due.same(what + ": traces", x.count(5), 1);
        if (x.count(5) == 1) {
            Due.trace(what, x, 0, 0, head, body, guards, outs, stays);
        }
        return x;
    }

    private static int[] code(int... code) {
        return code;
    }

    private static void folded() {
        loop("numbers are folded", code(Due.LOAD, 2, Due.CONST, 2, Due.CONST, 3, Due.ADD, 0, Due.ADD, 0, Due.STORE, 2), 0, 1, 0, 0, 5);
        loop("a folded number is that number", code(
            Due.LOAD, 0, Due.CONST, 2, Due.CONST, 3, Due.ADD, 0, Due.MUL, 0, Due.STORE, 3,
            Due.LOAD, 0, Due.CONST, 5, Due.MUL, 0, Due.STORE, 4), 1, 0, 0, 0, 4);
        loop("a folded LESS is the number 1", code(
            Due.LOAD, 0, Due.CONST, 1, Due.CONST, 2, Due.LESS, 0, Due.ADD, 0, Due.STORE, 3,
            Due.LOAD, 0, Due.CONST, 1, Due.ADD, 0, Due.STORE, 4), 1, 0, 0, 0, 4);
        loop("a number in a local is a number", code(
            Due.CONST, 2, Due.STORE, 3, Due.LOAD, 3, Due.CONST, 9, Due.MUL, 0, Due.STORE, 4), 0, 0, 0, 0, 4);
        loop("the same local twice is no number", code(Due.LOAD, 0, Due.LOAD, 0, Due.EQUAL, 0, Due.STORE, 2), 1, 0, 0, 0, 5);
        loop("times 0 is no number", code(Due.LOAD, 0, Due.CONST, 0, Due.MUL, 0, Due.STORE, 2), 1, 0, 0, 0, 5);
        TraceTier x = loop("folding wraps", code(
            Due.CONST, 32767, Due.CONST, 32767, Due.MUL, 0, Due.DUP, 0, Due.ADD, 0, Due.DUP, 0, Due.ADD, 0,
            Due.STORE, 2, Due.LOAD, 3, Due.LOAD, 2, Due.ADD, 0, Due.STORE, 3), 0, 1, 0, 0, 4);
        int by = 32767 * 32767 * 4;
        int before = x.local(3);
        x.run(1);
        Due.same("folding wraps: local 3", x.local(3), before + by);
        Due.same("folding wraps: local 2", x.local(2), by);
    }

    private static void shared() {
        loop("the same operation twice", code(
            Due.LOAD, 2, Due.CONST, 4, Due.ADD, 0, Due.LOAD, 2, Due.CONST, 4, Due.ADD, 0, Due.MUL, 0, Due.STORE, 2), 0, 2, 0, 0, 5);
        loop("in the other order it is another", code(
            Due.LOAD, 0, Due.LOAD, 1, Due.ADD, 0, Due.STORE, 2, Due.LOAD, 1, Due.LOAD, 0, Due.ADD, 0, Due.STORE, 3), 2, 0, 0, 0, 4);
        loop("of another kind it is another", code(
            Due.LOAD, 0, Due.LOAD, 1, Due.ADD, 0, Due.STORE, 2, Due.LOAD, 0, Due.LOAD, 1, Due.SUB, 0, Due.STORE, 3), 2, 0, 0, 0, 4);
        loop("with another number it is another", code(
            Due.LOAD, 0, Due.CONST, 1, Due.ADD, 0, Due.STORE, 2, Due.LOAD, 0, Due.CONST, 0, Due.ADD, 0, Due.STORE, 3), 2, 0, 0, 0, 4);
        loop("a copied local is the same value", code(
            Due.LOAD, 0, Due.STORE, 4, Due.LOAD, 0, Due.LOAD, 1, Due.ADD, 0, Due.STORE, 2,
            Due.LOAD, 4, Due.LOAD, 1, Due.ADD, 0, Due.STORE, 3), 1, 0, 0, 0, 3);
        loop("a local that was changed is another value", code(
            Due.LOAD, 2, Due.CONST, 1, Due.ADD, 0, Due.STORE, 2, Due.LOAD, 2, Due.CONST, 1, Due.ADD, 0, Due.STORE, 2), 0, 2, 0, 0, 5);
    }

    private static void leftOut() {
        loop("dropped", code(Due.LOAD, 0, Due.LOAD, 1, Due.MUL, 0, Due.DROP, 0), 0, 0, 0, 0, 6);
        loop("stored over", code(Due.LOAD, 2, Due.CONST, 1, Due.ADD, 0, Due.STORE, 2, Due.CONST, 0, Due.STORE, 2), 0, 0, 0, 0, 5);
        loop("part of what is dropped", code(
            Due.LOAD, 2, Due.CONST, 1, Due.ADD, 0, Due.LOAD, 0, Due.MUL, 0, Due.DROP, 0,
            Due.LOAD, 2, Due.CONST, 1, Due.SUB, 0, Due.STORE, 2), 0, 1, 0, 0, 5);
        loop("part of what is needed", code(
            Due.LOAD, 2, Due.CONST, 1, Due.ADD, 0, Due.LOAD, 0, Due.MUL, 0, Due.STORE, 2), 0, 2, 0, 0, 5);
        loop("right part of what is needed", code(
            Due.LOAD, 2, Due.LOAD, 2, Due.LOAD, 0, Due.ADD, 0, Due.MUL, 0, Due.STORE, 2), 0, 2, 0, 0, 5);
        loop("a local that stays behind a change", code(Due.LOAD, 0, Due.CONST, 5, Due.STORE, 0, Due.STORE, 0), 0, 0, 0, 0, 6);
    }

    private static void takenOut() {
        loop("a sum of locals that stay", code(
            Due.LOAD, 0, Due.LOAD, 1, Due.ADD, 0, Due.LOAD, 2, Due.MUL, 0, Due.STORE, 2), 1, 1, 0, 0, 5);
        loop("a sum of such and a number", code(
            Due.LOAD, 0, Due.LOAD, 1, Due.ADD, 0, Due.CONST, 3, Due.MUL, 0, Due.STORE, 2), 2, 0, 0, 0, 5);
        loop("a local that becomes another one's value", code(
            Due.LOAD, 1, Due.CONST, 1, Due.ADD, 0, Due.STORE, 2, Due.LOAD, 0, Due.STORE, 1), 0, 1, 0, 0, 4);
        loop("a local that becomes a number", code(
            Due.LOAD, 2, Due.LOAD, 0, Due.ADD, 0, Due.STORE, 3, Due.CONST, 0, Due.STORE, 2), 0, 1, 0, 0, 4);
        loop("a local whose change comes later", code(
            Due.LOAD, 0, Due.CONST, 2, Due.MUL, 0, Due.STORE, 3, Due.LOAD, 0, Due.CONST, 1, Due.ADD, 0, Due.STORE, 0), 0, 2, 0, 0, 4);
    }

    private static void guards() {
        loop("on a number", code(Due.CONST, 1, Due.IF, 2, Due.CONST, 0, Due.IF, 0), 0, 0, 0, 0, 6);
        loop("on a folded number", code(Due.CONST, 1, Due.CONST, 2, Due.LESS, 0, Due.IF, 4), 0, 0, 0, 0, 6);
        loop("on a local that is not 0", code(Due.LOAD, 0, Due.IF, 2), 0, 0, 1, 0, 6);
        loop("on a local that is 0", code(Due.LOAD, 5, Due.IF, 2), 0, 0, 1, 0, 6);
        loop("the same twice", code(Due.LOAD, 0, Due.IF, 2, Due.LOAD, 0, Due.IF, 4), 0, 0, 1, 0, 6);
        loop("on two locals", code(Due.LOAD, 0, Due.IF, 2, Due.LOAD, 1, Due.IF, 4), 0, 0, 2, 0, 6);
        loop("on what is shared", code(
            Due.LOAD, 0, Due.LOAD, 1, Due.LESS, 0, Due.IF, 4, Due.LOAD, 0, Due.LOAD, 1, Due.LESS, 0, Due.IF, 8), 1, 0, 1, 0, 6);
        TraceTier x = loop("on what is in the head", code(Due.LOAD, 0, Due.LOAD, 1, Due.LESS, 0, Due.IF, 4), 1, 0, 1, 0, 6);
        x.run(3);
        Due.same("a guard is done in every turn", x.count(4), 1 + 3);
        asManyAsCanBe();
    }

    private static void asManyAsCanBe() {
        TraceTier x = new TraceTier();
        for (int g = 0; g < 6; g++) {
            Due.append(x, Due.LOAD, g, Due.IF, 2 * g + 2);
        }
        for (int g = 0; g < 4; g++) {
            Due.append(x, Due.LOAD, g, Due.LOAD, g, Due.ADD, 0, Due.IF, 16 + 4 * g);
        }
        int size = x.add(Due.GOTO, 0);
        x.begin(1, 0, true);
        x.run(4 * size);
        Due.trace("ten guards", x, 0, 0, 4, 0, 10, 0, 6);
        x.run(10);
        Due.counts("ten guards", x, 0, 4 * size, 10, 0, 104, 1, 0);
    }

    private static void pictures() {
        loop("a stack's value is needed", code(
            Due.LOAD, 0, Due.LOAD, 1, Due.MUL, 0, Due.LOAD, 0, Due.IF, 5, Due.DROP, 0), 1, 0, 1, 0, 6);
        loop("a local's value is needed", code(
            Due.LOAD, 3, Due.LOAD, 2, Due.CONST, 1, Due.ADD, 0, Due.STORE, 3, Due.LOAD, 0, Due.IF, 7, Due.STORE, 3), 1, 0, 1, 0, 6);
        loop("a guard that is not put has no picture", code(
            Due.LOAD, 0, Due.IF, 2, Due.LOAD, 0, Due.LOAD, 1, Due.MUL, 0, Due.LOAD, 0, Due.IF, 7, Due.DROP, 0), 0, 0, 1, 0, 6);
        loop("a number's IF has no picture", code(
            Due.LOAD, 0, Due.LOAD, 1, Due.MUL, 0, Due.CONST, 1, Due.IF, 5, Due.DROP, 0), 0, 0, 0, 0, 6);
    }

    private static void outs() {
        loop("a number given out", code(Due.CONST, 7, Due.OUT, 0), 0, 0, 0, 1, 6);
        loop("the same twice is two", code(Due.LOAD, 0, Due.OUT, 0, Due.LOAD, 0, Due.OUT, 0), 0, 0, 0, 2, 6);
        loop("what is given out is needed", code(Due.LOAD, 0, Due.LOAD, 1, Due.ADD, 0, Due.OUT, 0), 1, 0, 0, 1, 6);
    }

    /** Traces are told in the order in which they were made, not by where they begin. */
    private static void inOrder() {
        TraceTier x = Due.begun(6, 0,
            Due.GOTO, 8,
            Due.LOAD, 1, Due.CONST, 1, Due.ADD, 0, Due.STORE, 1, Due.LOAD, 1, Due.OUT, 0, Due.GOTO, 1,
            Due.LOAD, 0, Due.CONST, 1, Due.SUB, 0, Due.DUP, 0, Due.STORE, 0, Due.IF, 8, Due.GOTO, 1);
        x.run(500);
        Due.same("traces", x.count(5), 2);
        Due.trace("the first", x, 0, 8, 0, 1, 1, 0, 5);
        Due.trace("the second", x, 1, 1, 0, 1, 0, 1, 5);
    }
}
