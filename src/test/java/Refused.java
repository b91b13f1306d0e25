import java.util.function.Consumer;
import java.util.function.Supplier;

/**
 * Calls that are refused: what is due is thrown, and nothing has changed, neither in what the
 * other calls show nor in what comes of the object later.
 */
final class Refused {
    private Refused() {
    }

    static void argument(String what, Supplier<TraceTier> made, Consumer<TraceTier> call) {
        check(what, made, call, IllegalArgumentException.class);
    }

    static void state(String what, Supplier<TraceTier> made, Consumer<TraceTier> call) {
        check(what, made, call, IllegalStateException.class);
    }

    static void index(String what, Supplier<TraceTier> made, Consumer<TraceTier> call) {
        check(what, made, call, IndexOutOfBoundsException.class);
    }

    /** In whatever state the object is. */
    static void argument(String what, Consumer<TraceTier> call) {
        for (State state : State.values()) {
            argument(what + " when " + state, state::made, call);
        }
    }

    static void index(String what, Consumer<TraceTier> call) {
        for (State state : State.values()) {
            index(what + " when " + state, state::made, call);
        }
    }

    private static void check(String what, Supplier<TraceTier> made, Consumer<TraceTier> call, Class<?> due) {
        String before = Shown.of(made.get());
        TraceTier x = made.get();
        Due.throwsExactly(what, x, call, due);
        Due.same(what + ": the refused call", Shown.of(x), before);
        for (int first = 0; first < 4; first++) {
            TraceTier refused = made.get();
            Due.throwsExactly(what, refused, call, due);
            Due.same(what + ": what comes behind it", goneOn(refused, first), goneOn(made.get(), first));
        }
    }

    /** Four ways to go on, as each of them could cover up what another one would show. */
    private static String goneOn(TraceTier x, int first) {
        StringBuilder text = new StringBuilder();
        if (first == 0) {
            text.append(Shown.answer(() -> x.run(1))).append(" work ").append(x.count(4));
            text.append(Shown.answer(() -> x.run(30))).append(" work ").append(x.count(4));
        } else if (first == 1) {
            text.append(Shown.answer(() -> x.begin(9, 2, true) ? 1 : 0));
            text.append(Shown.answer(() -> x.run(60)));
        } else if (first == 2) {
            text.append(Shown.answer(() -> x.add(Due.HALT, 0)));
            text.append(Shown.answer(() -> x.begin(9, 2, true) ? 1 : 0));
        } else {
            text.append(Shown.answer(x::clear));
            text.append(Shown.answer(() -> x.add(Due.HALT, 0)));
            text.append(Shown.answer(() -> x.begin(9, 2, true) ? 1 : 0));
        }
        return text.append("; ").append(Shown.of(x)).append("; cleared").append(Shown.answer(x::clear)).toString();
    }
}
