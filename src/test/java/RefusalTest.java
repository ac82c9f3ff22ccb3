import java.util.List;
import java.util.NoSuchElementException;
import java.util.function.Supplier;

/** Every kind of call that is refused, in every kind of state: all is afterwards as it was before. */
public final class RefusalTest {
    private static final Checks CHECKS = new Checks();
    private static final Class<IllegalArgumentException> ARGUMENT = IllegalArgumentException.class;
    private static final Class<IllegalStateException> STATE = IllegalStateException.class;
    private static final Class<NoSuchElementException> ELEMENT = NoSuchElementException.class;
    // Part of the way through, every part of a machine holds something: at place 11, or 10 the fused one.
    private static final String BUSY = "P4 S4 P5 O P6 P7 C9 H H P1 D O V R";
    private static final List<State> STATES = List.of(
        new State("new", 0, CountedEngine::new),
        new State("not fused", 14, () -> going(Checks.engineOf(BUSY))),
        new State("not fused any more", 14, () -> changed(Checks.ranOf(BUSY))),
        new State("fused", 14, () -> going(Checks.fusedOf(BUSY))),
        new State("ended", 14, () -> Checks.ranOf(BUSY)),
        new State("under", 4, () -> Checks.ranOf("P4 S4 P5 +")),
        new State("over", 5, () -> Checks.ranOf("P4 S4 P5 O C2")),
        new State("zero", 5, () -> Checks.ranOf("P4 S4 P5 P0 /")),
        new State("lost", 4, () -> Checks.ranOf("P4 S4 P5 C99")),
        new State("full, not fused", 80, () -> going(Checks.engineOf(BUSY + " " + Checks.times(66, "V")))),
        new State("full, fused", 80, () -> going(Checks.fusedOf(BUSY + " " + Checks.times(66, "V")))));

    private record State(String name, int size, Supplier<CountedEngine> made) { }

    public static void main(String[] args) {
        for (State state : STATES) {
            adds(state);
            changes(state);
            looks(state);
            runs(state);
            askings(state);
        }
        CHECKS.end();
    }

    private static CountedEngine going(CountedEngine x) {
        x.run(Checks.PLAIN, 9);
        if (isFused(x)) {
            x.run(Checks.FUSED, 7);
        }
        return x;
    }

    private static CountedEngine changed(CountedEngine x) {
        x.change(0, 'P', 3);
        x.run(Checks.PLAIN, 9);
        return x;
    }

    private static boolean isFused(CountedEngine x) {
        try {
            x.run(Checks.FUSED, 0);
            return true;
        } catch (IllegalStateException e) {
            return false;
        }
    }

    private static void adds(State state) {
        CHECKS.sentence("Throws, changing nothing");
        for (int letter : new int[] {'A', 'p', 'Q', 0, -1, 256 + 'P', Integer.MIN_VALUE, Integer.MAX_VALUE}) {
            CHECKS.dueRefused(state.name + ": add(" + letter + ", 1)", ARGUMENT, state.made, x -> x.add(letter, 1));
        }
        for (int n : new int[] {-1, 8, Integer.MIN_VALUE, Integer.MAX_VALUE}) {
            CHECKS.dueRefused(state.name + ": add(L, " + n + ")", ARGUMENT, state.made, x -> x.add('L', n));
            CHECKS.dueRefused(state.name + ": add(S, " + n + ")", ARGUMENT, state.made, x -> x.add('S', n));
        }
        if (state.size == 80) {
            CHECKS.dueRefused(state.name + ": add(J, 1)", STATE, state.made, x -> x.add('J', 1));
            CHECKS.dueRefused(state.name + ": add(L, 7)", STATE, state.made, x -> x.add('L', 7));
        }
    }

    private static void changes(State state) {
        CHECKS.sentence("NoSuchElementException when there is none; IllegalArgumentException likewise.");
        for (int place : new int[] {-1, state.size, 80, Integer.MIN_VALUE, Integer.MAX_VALUE}) {
            String call = state.name + ": change(" + place + ", ";
            CHECKS.dueRefused(call + "J, 1)", ELEMENT, state.made, x -> x.change(place, 'J', 1));
            CHECKS.dueRefused(call + "A, 1)", ELEMENT, state.made, x -> x.change(place, 'A', 1));
        }
        if (state.size > 0) {
            for (int place : new int[] {0, state.size - 1}) {
                String call = state.name + ": change(" + place + ", ";
                CHECKS.dueRefused(call + "A, 1)", ARGUMENT, state.made, x -> x.change(place, 'A', 1));
                CHECKS.dueRefused(call + "-1, 1)", ARGUMENT, state.made, x -> x.change(place, -1, 1));
                CHECKS.dueRefused(call + "L, 8)", ARGUMENT, state.made, x -> x.change(place, 'L', 8));
                CHECKS.dueRefused(call + "S, -1)", ARGUMENT, state.made, x -> x.change(place, 'S', -1));
            }
        }
    }

    private static void looks(State state) {
        CHECKS.sentence("NoSuchElementException when there is no such place, for another what, "
            + "and for 2 when the program is not fused.");
        for (int place : new int[] {-1, state.size, Integer.MAX_VALUE}) {
            CHECKS.dueRefused(state.name + ": look(" + place + ", 0)", ELEMENT, state.made, x -> x.look(place, 0));
        }
        for (int what : new int[] {-1, 4, Integer.MIN_VALUE}) {
            CHECKS.dueRefused(state.name + ": look(0, " + what + ")", ELEMENT, state.made, x -> x.look(0, what));
        }
        if (!isFused(state.made.get())) {
            CHECKS.dueRefused(state.name + ": look(0, 2)", ELEMENT, state.made, x -> x.look(0, 2));
        }
    }

    private static void runs(State state) {
        CHECKS.sentence("IllegalStateException for the fused one when the program is not fused.");
        if (!isFused(state.made.get())) {
            for (int n : new int[] {-1, 0, 1, 3000, 3001, Integer.MIN_VALUE, Integer.MAX_VALUE}) {
                CHECKS.dueRefused(state.name + ": run(true, " + n + ")", STATE, state.made, x -> x.run(Checks.FUSED, n));
            }
        }
    }

    private static void askings(State state) {
        CHECKS.sentence("NoSuchElementException when there is none, or it was not kept.");
        for (boolean fused : Checks.BOTH) {
            int height = state.made.get().about(fused, 1);
            int outputs = state.made.get().about(fused, 3);
            for (int k : new int[] {-1, height, 40, Integer.MAX_VALUE}) {
                CHECKS.dueRefused(state.name + ": stack(" + k + ")", ELEMENT, state.made, x -> x.stack(fused, k));
            }
            for (int k : new int[] {-1, 8, Integer.MIN_VALUE}) {
                CHECKS.dueRefused(state.name + ": local(" + k + ")", ELEMENT, state.made, x -> x.local(fused, k));
            }
            for (int k : new int[] {-1, outputs, 60, Integer.MAX_VALUE}) {
                CHECKS.dueRefused(state.name + ": out(" + k + ")", ELEMENT, state.made, x -> x.out(fused, k));
            }
        }
    }
}
