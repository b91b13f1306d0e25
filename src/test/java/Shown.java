import java.util.function.IntSupplier;
import java.util.function.IntUnaryOperator;

/** What the calls of the face show of an object, as a text, so that two can be compared. */
final class Shown {
    private Shown() {
    }

    /** All of it; at most some 160 calls, as an object has 512. */
    static String of(TraceTier x) {
        StringBuilder text = new StringBuilder("counts");
        for (int w = 0; w < 7; w++) {
            text.append(' ').append(x.count(w));
        }
        text.append("; locals");
        for (int l = 0; l < 6; l++) {
            text.append(' ').append(x.local(l));
        }
        row(text, "stack", 7, x::top);
        text.append("; outs ").append(x.outs());
        row(text, "given", 31, x::out);
        row(text, "grown", 41, i -> x.place(i, 0));
        row(text, "marks", 41, i -> x.place(i, 1));
        for (int t = 0; t < x.count(5); t++) {
            int here = t;
            row(text, "trace", 6, w -> x.trace(here, w));
        }
        return text.toString();
    }

    /** The answer of a call, or the exception that it throws. */
    static String answer(IntSupplier call) {
        try {
            return " " + call.getAsInt();
        } catch (RuntimeException e) {
            return " " + e.getClass().getSimpleName();
        }
    }

    private static void row(StringBuilder text, String name, int limit, IntUnaryOperator call) {
        text.append("; ").append(name);
        for (int k = 0; k < limit; k++) {
            int here = k;
            String answer = answer(() -> call.applyAsInt(here));
            text.append(answer);
            if (answer.endsWith("Exception")) {
                return;
            }
        }
    }
}
