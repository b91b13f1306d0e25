import java.util.ArrayList;
import java.util.HashMap;
import java.util.HashSet;
import java.util.LinkedHashSet;
import java.util.List;
import java.util.Map;
import java.util.Set;
import java.util.TreeSet;

/**
 * The document once more, told as plainly as can be and without care for space: values are terms
 * that are worked out from the locals each time. Random runs are compared with it.
 */
final class PlainTier {
    final List<int[]> code;
    int[] locals = new int[6];
    List<Integer> stack = new ArrayList<>();
    List<Integer> given = new ArrayList<>();
    Map<Integer, Integer> counts = new HashMap<>();
    Set<Integer> givenUp = new HashSet<>();
    List<Recorded> traces = new ArrayList<>();
    boolean begun;
    boolean tier;
    boolean halted;
    int next;
    int instructions;
    int wholeTurns;
    int leaves;
    int work;
    int recordedFrom = -1;
    List<int[]> record = new ArrayList<>();
    Recorded wholeBefore;
    /** How often a 31st instruction came up that has a trace, so that its step is a turn. */
    int turnsAfterGivingUp;

    PlainTier(List<int[]> code) {
        this.code = code;
    }

    /** A value as a term; two are the same when they read the same. */
    record Term(int kind, int number, Term left, Term right) {
        static Term number(int n) {
            return new Term(Due.CONST, n, null, null);
        }

        static Term local(int l) {
            return new Term(Due.LOAD, l, null, null);
        }

        boolean isNumber() {
            return kind == Due.CONST;
        }

        boolean isLeaf() {
            return left == null;
        }

        int under(int[] locals) {
            if (isLeaf()) {
                return isNumber() ? number : locals[number];
            }
            return apply(kind, left.under(locals), right.under(locals));
        }

        void collect(Set<Term> into) {
            if (!isLeaf() && into.add(this)) {
                left.collect(into);
                right.collect(into);
            }
        }
    }

    /** A thing of a trace: an operation, a guard (with its picture) or an out. */
    record Thing(char sort, Term value, boolean wasZero, List<Term> locals, List<Term> stack, int otherWay) {
    }

    /** A trace, with all that came, needed or not. */
    static final class Recorded {
        int start;
        final List<Thing> came = new ArrayList<>();
        List<Term> nexts = new ArrayList<>();
        final Set<Term> needed = new HashSet<>();

        boolean stays(int l) {
            return nexts.get(l).equals(Term.local(l));
        }

        boolean constant(Term t) {
            if (t.isLeaf()) {
                return t.isNumber() || stays(t.number());
            }
            return constant(t.left()) && constant(t.right());
        }

        boolean inHead(Thing thing) {
            return thing.sort() == 'o' && needed.contains(thing.value()) && constant(thing.value());
        }

        boolean inBody(Thing thing) {
            return thing.sort() != 'o' || needed.contains(thing.value()) && !constant(thing.value());
        }

        int tell(int what) {
            int answer = 0;
            for (Thing thing : came) {
                boolean counted = what == 1 && inHead(thing)
                    || what == 2 && thing.sort() == 'o' && inBody(thing)
                    || what == 3 && thing.sort() == 'g'
                    || what == 4 && thing.sort() == 'u';
                answer += counted ? 1 : 0;
            }
            for (int l = 0; l < 6; l++) {
                answer += what == 5 && stays(l) ? 1 : 0;
            }
            return what == 0 ? start : answer;
        }
    }

    static int apply(int operation, int a, int b) {
        return switch (operation) {
            case Due.ADD -> a + b;
            case Due.SUB -> a - b;
            case Due.MUL -> a * b;
            case Due.AND -> a & b;
            case Due.LESS -> a < b ? 1 : 0;
            case Due.EQUAL -> a == b ? 1 : 0;
            default -> throw new AssertionError(operation);
        };
    }

    /** Follows every way with every depth there is. */
    boolean sound() {
        Map<Integer, TreeSet<Integer>> depths = new HashMap<>();
        List<int[]> open = new ArrayList<>();
        open.add(new int[] {0, 0});
        while (!open.isEmpty()) {
            int[] now = open.remove(open.size() - 1);
            if (now[0] >= code.size()) {
                return false;
            }
            TreeSet<Integer> seen = depths.computeIfAbsent(now[0], i -> new TreeSet<>());
            if (!seen.add(now[1])) {
                continue;
            }
            if (seen.size() > 1) {
                return false;
            }
            int operation = code.get(now[0])[0];
            int takes = switch (operation) {
                case Due.CONST, Due.LOAD, Due.GOTO, Due.HALT -> 0;
                case Due.STORE, Due.DUP, Due.DROP, Due.OUT, Due.IF -> 1;
                default -> 2;
            };
            int gives = switch (operation) {
                case Due.STORE, Due.DROP, Due.OUT, Due.GOTO, Due.IF, Due.HALT -> 0;
                case Due.DUP, Due.SWAP -> 2;
                default -> 1;
            };
            if (now[1] < takes || now[1] - takes + gives > 6) {
                return false;
            }
            if (operation == Due.GOTO || operation == Due.IF) {
                open.add(new int[] {code.get(now[0])[1], now[1] - takes});
            }
            if (operation != Due.GOTO && operation != Due.HALT) {
                open.add(new int[] {now[0] + 1, now[1] - takes + gives});
            }
        }
        return true;
    }

    void begin(int a, int b, boolean withTier) {
        locals = new int[] {a, b, 0, 0, 0, 0};
        stack = new ArrayList<>();
        given = new ArrayList<>();
        counts = new HashMap<>();
        givenUp = new HashSet<>();
        traces = new ArrayList<>();
        begun = true;
        tier = withTier;
        halted = false;
        next = 0;
        instructions = 0;
        wholeTurns = 0;
        leaves = 0;
        work = 0;
        recordedFrom = -1;
        wholeBefore = null;
    }

    int run(int n) {
        int made = 0;
        for (; made < n && !halted; made++) {
            step();
        }
        return made;
    }

    /** In the words of Shown. */
    String shown() {
        StringBuilder text = new StringBuilder("counts ").append(halted ? -1 : next);
        int[] told = {instructions, wholeTurns, leaves, work, traces.size(), recordedFrom >= 0 ? 1 : 0};
        for (int number : told) {
            text.append(' ').append(number);
        }
        text.append("; locals");
        for (int number : locals) {
            text.append(' ').append(number);
        }
        row(text, "stack", stack, 6);
        text.append("; outs ").append(given.size());
        row(text, "given", given, 30);
        List<Integer> marks = new ArrayList<>();
        List<Integer> grown = new ArrayList<>();
        for (int i = code.size() - 1; i >= 0; i--) {
            grown.add(counts.getOrDefault(i, 0));
            marks.add(traceAt(i) != null ? 1 : givenUp.contains(i) ? 2 : 0);
        }
        row(text, "grown", grown, 40);
        row(text, "marks", marks, 40);
        for (Recorded t : traces) {
            text.append("; trace");
            for (int w = 0; w < 6; w++) {
                text.append(' ').append(t.tell(w));
            }
        }
        return text.toString();
    }

    /** The latest first, at most so many, and none behind them. */
    private static void row(StringBuilder text, String name, List<Integer> from, int most) {
        text.append("; ").append(name);
        for (int k = 0; k < most && k < from.size(); k++) {
            text.append(' ').append(from.get(from.size() - 1 - k));
        }
        text.append(" IndexOutOfBoundsException");
    }

    Recorded traceAt(int place) {
        for (Recorded t : traces) {
            if (t.start == place) {
                return t;
            }
        }
        return null;
    }

    private void step() {
        Recorded due = traceAt(next);
        if (recordedFrom >= 0 && record.size() == 30) {
            turnsAfterGivingUp += due != null ? 1 : 0;
            givenUp.add(recordedFrom);
            recordedFrom = -1;
        }
        if (recordedFrom < 0 && due != null) {
            turn(due);
        } else {
            instruction();
        }
    }

    private void turn(Recorded t) {
        int[] at = locals.clone();
        if (wholeBefore != t) {
            work += t.tell(1);
        }
        wholeBefore = null;
        for (Thing thing : t.came) {
            if (!t.inBody(thing)) {
                continue;
            }
            work++;
            if (thing.sort() == 'u') {
                given.add(thing.value().under(at));
            }
            if (thing.sort() == 'g' && (thing.value().under(at) == 0) != thing.wasZero()) {
                leaves++;
                for (int l = 0; l < 6; l++) {
                    locals[l] = thing.locals().get(l).under(at);
                }
                for (Term term : thing.stack()) {
                    stack.add(term.under(at));
                }
                next = thing.otherWay();
                return;
            }
        }
        for (int l = 0; l < 6; l++) {
            locals[l] = t.nexts.get(l).under(at);
        }
        wholeTurns++;
        wholeBefore = t;
    }

    private static <T> T take(List<T> from) {
        return from.remove(from.size() - 1);
    }

    private static <T> void swap(List<T> in) {
        T upper = take(in);
        T lower = take(in);
        in.add(upper);
        in.add(lower);
    }

    private void instruction() {
        int at = next;
        int operation = code.get(at)[0];
        int operand = code.get(at)[1];
        boolean goes = false;
        wholeBefore = null;
        instructions++;
        next = at + 1;
        switch (operation) {
            case Due.CONST -> stack.add(operand);
            case Due.LOAD -> stack.add(locals[operand]);
            case Due.STORE -> locals[operand] = take(stack);
            case Due.DUP -> stack.add(stack.get(stack.size() - 1));
            case Due.DROP -> take(stack);
            case Due.SWAP -> swap(stack);
            case Due.OUT -> given.add(take(stack));
            case Due.GOTO -> goes = true;
            case Due.IF -> goes = take(stack) != 0;
            case Due.HALT -> halted = true;
            default -> {
                int b = take(stack);
                stack.add(apply(operation, take(stack), b));
            }
        }
        if (goes) {
            next = operand;
        }
        if (recordedFrom >= 0) {
            record.add(new int[] {at, goes ? 1 : 0});
            if (halted) {
                givenUp.add(recordedFrom);
                recordedFrom = -1;
            } else if (next == recordedFrom) {
                traces.add(traceOf());
                recordedFrom = -1;
            }
        } else if (goes && tier && next <= at && traceAt(next) == null && !givenUp.contains(next)) {
            if (counts.merge(next, 1, Integer::sum) == 3) {
                if (stack.isEmpty() && traces.size() < 4) {
                    recordedFrom = next;
                    record = new ArrayList<>();
                } else {
                    givenUp.add(next);
                }
            }
        }
    }

    private Recorded traceOf() {
        Recorded made = new Recorded();
        made.start = recordedFrom;
        List<Term> terms = new ArrayList<>();
        for (int l = 0; l < 6; l++) {
            made.nexts.add(Term.local(l));
        }
        Set<Term> known = new LinkedHashSet<>();
        for (int[] r : record) {
            follow(made, terms, known, r[0], r[1] == 1);
        }
        made.nexts.forEach(t -> t.collect(made.needed));
        return made;
    }

    private void follow(Recorded made, List<Term> terms, Set<Term> known, int at, boolean went) {
        int operation = code.get(at)[0];
        int operand = code.get(at)[1];
        switch (operation) {
            case Due.CONST -> terms.add(Term.number(operand));
            case Due.LOAD -> terms.add(made.nexts.get(operand));
            case Due.STORE -> made.nexts.set(operand, take(terms));
            case Due.DUP -> terms.add(terms.get(terms.size() - 1));
            case Due.DROP -> take(terms);
            case Due.SWAP -> swap(terms);
            case Due.GOTO -> { }
            case Due.OUT -> {
                Term value = take(terms);
                value.collect(made.needed);
                made.came.add(new Thing('u', value, false, null, null, -1));
            }
            case Due.IF -> guard(made, terms, take(terms), !went, went ? at + 1 : operand);
            default -> {
                Term b = take(terms);
                Term a = take(terms);
                Term whole = new Term(operation, 0, a, b);
                if (a.isNumber() && b.isNumber()) {
                    whole = Term.number(whole.under(null));
                } else if (known.add(whole)) {
                    made.came.add(new Thing('o', whole, false, null, null, -1));
                }
                terms.add(whole);
            }
        }
    }

    private static void guard(Recorded made, List<Term> terms, Term asked, boolean wasZero, int otherWay) {
        boolean before = made.came.stream().anyMatch(t -> t.sort() == 'g' && t.value().equals(asked) && t.wasZero() == wasZero);
        if (asked.isNumber() || before) {
            return;
        }
        asked.collect(made.needed);
        made.nexts.forEach(t -> t.collect(made.needed));
        terms.forEach(t -> t.collect(made.needed));
        made.came.add(new Thing('g', asked, wasZero, List.copyOf(made.nexts), List.copyOf(terms), otherWay));
    }
}
