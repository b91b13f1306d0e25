/** Promise 6: local. */
final class LocalTest {
    public static void main(String[] args) {
        Due.test("A local.", LocalTest::eachOfThem);
        Due.test("A local: behind a whole turn, its next value", LocalTest::nextValue);
        Due.test("A local: when a trace was left, what the picture says", LocalTest::fromAPicture);
        Due.test("A local: while the code is not begun, it is 0", LocalTest::notBegun);
        Due.test("IndexOutOfBoundsException, when there is none: below", () -> none(-1, -6, Integer.MIN_VALUE));
        Due.test("IndexOutOfBoundsException, when there is none: above", () -> none(6, 7, Integer.MAX_VALUE));
        Due.finish();
    }

    private static void none(int... all) {
        for (int l : all) {
            Refused.index("local(" + l + ")", x -> x.local(l));
        }
    }

    private static void eachOfThem() {
        TraceTier x = Due.run(8, -8, 9, "CONST 12, STORE 2, CONST 13, STORE 3, CONST 14, STORE 4, CONST 15, STORE 5, HALT");
        Due.locals("all", x, -8, 9, 12, 13, 14, 15);
        x.run(1);
        Due.locals("halted", x, -8, 9, 12, 13, 14, 15);
    }

    private static void nextValue() {
        TraceTier x = Due.traced("LOAD 1, LOAD 0, ADD, STORE 0, CONST 5, STORE 5");
        Due.locals("four rounds", x, 34, 7, 0, 0, 0, 5);
        x.run(2);
        Due.locals("two turns", x, 48, 7, 0, 0, 0, 5);
    }

    private static void fromAPicture() {
        String code = "CONST 5, STORE 2, LOAD 0, CONST 10, MUL, STORE 3, LOAD 0, IF 9, HALT, "
            + "CONST 0, STORE 2, CONST 0, STORE 3, LOAD 0, CONST 1, SUB, STORE 0, GOTO 0";
        TraceTier x = Due.run(4 * 17 + 1, 5, 8, code);
        Due.locals("a whole turn", x, 0, 8, 0, 0, 0, 0);
        x.run(1);
        Due.same("left", x.count(3), 1);
        Due.locals("from the picture", x, 0, 8, 5, 0, 0, 0);
    }

    private static void notBegun() {
        Due.locals("with code", State.CODED.made(), 0, 0, 0, 0, 0, 0);
        Due.locals("cleared", State.CLEARED.made(), 0, 0, 0, 0, 0, 0);
    }
}
