/** Promise 11: place. What makes a count grow is asked by RecordingTest. */
final class PlaceTest {
    private static final String SELF = "GOTO 0, HALT";

    public static void main(String[] args) {
        Due.test("Of an instruction: its count (0)", PlaceTest::counts);
        Due.test("1 if it has a trace", PlaceTest::hasATrace);
        Due.test("2 if it was given up", PlaceTest::givenUp);
        Due.test("else 0 (1)", PlaceTest::elseZero);
        Due.test("Of an instruction: 0 and 0 before the program is begun", PlaceTest::notBegun);
        Due.test("when there is no such instruction: behind the last one", PlaceTest::behindTheLast);
        Due.test("when there is no such instruction: without code", PlaceTest::withoutCode);
        Due.test("when there is no such instruction: of forty, the fortieth is the last", PlaceTest::ofForty);
        Due.test("when there is no such instruction: below 0", PlaceTest::below);
        Due.test("when there is no such [..] what", PlaceTest::wrongWhat);
        Due.finish();
    }

    private static void counts() {
        TraceTier x = Due.begun(0, 0, SELF);
        int[] due = {1, 2, 3, 3, 3, 3};
        for (int step = 0; step < due.length; step++) {
            Due.same("another instruction", x.place(1, 0), 0);
            x.run(1);
            Due.same("behind step " + step, x.place(0, 0), due[step]);
        }
    }

    private static void hasATrace() {
        TraceTier x = Due.begun(0, 0, SELF);
        int[] due = {0, 0, 0, 1, 1, 1};
        for (int step = 0; step < due.length; step++) {
            x.run(1);
            Due.same("behind step " + step, x.place(0, 1), due[step]);
            Due.same("another instruction", x.place(1, 1), 0);
        }
        Due.same("when left", State.LEFT.made().place(0, 1), 1);
        Due.same("when halted", State.HALTED.made().place(0, 1), 1);
    }

    private static void givenUp() {
        TraceTier x = Due.begun(0, 0, "CONST 5, GOTO 1");
        int[] due = {0, 0, 0, 2, 2, 2};
        for (int step = 0; step < due.length; step++) {
            x.run(1);
            Due.same("behind step " + step, x.place(1, 1), due[step]);
            Due.same("another instruction", x.place(0, 1), 0);
        }
    }

    private static void elseZero() {
        TraceTier x = State.RECORDED.made();
        for (int i = 0; i < Due.size(State.CODE); i++) {
            Due.place("recorded", x, i, i == 0 ? 3 : 0, 0);
        }
    }

    private static void notBegun() {
        TraceTier x = State.CODED.made();
        for (int i = 0; i < Due.size(State.CODE); i++) {
            Due.place("not begun", x, i, 0, 0);
        }
    }

    private static void behindTheLast() {
        int size = Due.size(State.CODE);
        int[] none = {size, size + 1, 39, 40, Integer.MAX_VALUE};
        for (int i : none) {
            for (int what = 0; what <= 1; what++) {
                int asked = what;
                Refused.index("place(" + i + ", " + what + ")", x -> x.place(i, asked));
            }
        }
        Due.place("the last one", State.BEGUN.made(), size - 1, 0, 0);
        Refused.index("place(1, 0) of one", () -> Due.with("HALT"), x -> x.place(1, 0));
    }

    private static void withoutCode() {
        for (int what = 0; what <= 1; what++) {
            int asked = what;
            Refused.index("place(0, " + what + ") of a new one", State.NEW::made, x -> x.place(0, asked));
            Refused.index("place(0, " + what + ") behind clear", State.CLEARED::made, x -> x.place(0, asked));
        }
    }

    private static TraceTier forty() {
        TraceTier x = new TraceTier();
        for (int i = 0; i < 39; i++) {
            x.add(Due.GOTO, 39);
        }
        x.add(Due.GOTO, 39);
        x.begin(0, 0, true);
        x.run(3);
        return x;
    }

    private static void ofForty() {
        Due.place("the fortieth", forty(), 39, 2, 0);
        Refused.index("place(40, 0)", PlaceTest::forty, x -> x.place(40, 0));
        Refused.index("place(40, 1)", PlaceTest::forty, x -> x.place(40, 1));
    }

    private static void below() {
        int[] none = {-1, -40, Integer.MIN_VALUE};
        for (int i : none) {
            Refused.index("place(" + i + ", 0)", x -> x.place(i, 0));
            Refused.index("place(" + i + ", 1)", x -> x.place(i, 1));
        }
    }

    private static void wrongWhat() {
        int[] none = {-1, 2, 3, Integer.MIN_VALUE, Integer.MAX_VALUE};
        for (int what : none) {
            Refused.index("place(0, " + what + ")", x -> x.place(0, what));
        }
    }
}
