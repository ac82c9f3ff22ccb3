import java.util.NoSuchElementException;

/** Promises 5 (fuse) and 6 (look). */
public final class FuseTest {
    private static final Checks CHECKS = new Checks();
    private static final int[] FAR = {Integer.MIN_VALUE, Integer.MAX_VALUE};

    public static void main(String[] args) {
        fuseRestarts();
        fuseAnswers();
        fuseCountsWhatBegins();
        fuseAgain();
        letterAndNumber();
        rowsAndTargets();
        noSuchPlace();
        anotherWhat();
        notFused();
        targetsBeforeFusing();
        CHECKS.end();
    }

    private static void fuseRestarts() {
        CHECKS.sentence("Fuses the program; both machines are at their beginning.");
        for (String text : new String[] {"P5 S1 P6 O C6 H P7 H", "P5 S1 + H", "P5 S1 J99 H", "P5 S1 P1 P0 /", "P9 S2 C0"}) {
            CountedEngine x = Checks.ranOf(text);
            CHECKS.due(text + ": is over", x.about(Checks.PLAIN, 4) > 0 ? 1 : 0, 1);
            x.fuse();
            CHECKS.dueBeginning(text + ": fused again", x);
            CHECKS.due(text + ": look(0, 2)", x.look(0, 2), 10);
            CHECKS.due(text + ": run(true, 1)", x.run(Checks.FUSED, 1), 1);
        }
        CountedEngine plain = Checks.engineOf("P5 P6 O H");
        plain.run(Checks.PLAIN, 3);
        CHECKS.due("fused for the first time", plain.fuse(), 4);
        CHECKS.dueBeginning("fused for the first time", plain);
        CHECKS.dueThrow("its stack is empty", NoSuchElementException.class, () -> plain.stack(Checks.PLAIN, 0));
        CHECKS.dueThrow("its output is empty", NoSuchElementException.class, () -> plain.out(Checks.PLAIN, 0));
    }

    private static void fuseAnswers() {
        CHECKS.sentence("Answers how many instructions the fused program has.");
        CHECKS.due("empty", new CountedEngine().fuse(), 0);
        CHECKS.due("one", Checks.engineOf("P1").fuse(), 1);
        CHECKS.due("one row", Checks.engineOf("L P + S").fuse(), 1);
        CHECKS.due("80 alone", Checks.engineOf(Checks.times(80, "P1")).fuse(), 80);
        CHECKS.due("40 of two", Checks.engineOf(Checks.times(40, "P S")).fuse(), 40);
        CHECKS.due("20 of four", Checks.engineOf(Checks.times(20, "L P + S")).fuse(), 20);
        CountedEngine empty = new CountedEngine();
        empty.fuse();
        CHECKS.due("the empty one counts as fused: run(true, 1)", empty.run(Checks.FUSED, 1), 0);
        CHECKS.due("the empty one counts as fused: about(true, 4)", empty.about(Checks.FUSED, 4), 4);
    }

    private static void fuseCountsWhatBegins() {
        CHECKS.sentence("The fused program has fused instructions and those that stayed.");
        for (String text : new String[] {"H", "L L L L", "D D O X D *", "L P + S L P < Z0 J6 V L P S", "C2 L L L - P = Z4 R"}) {
            CountedEngine x = Checks.engineOf(text);
            int count = x.fuse();
            int begin = 0;
            for (int place = 0; place < text.split(" ").length; place++) {
                begin += x.look(place, 2) == -2 ? 0 : 1;
            }
            CHECKS.due(text + ": places where something begins", begin, count);
        }
    }

    private static void fuseAgain() {
        CHECKS.sentence("Answers how many instructions the fused program has.");
        CountedEngine x = Checks.engineOf("P1 S0 L0 P2 + S0 H");
        for (int k = 0; k < 3; k++) {
            CHECKS.due("fuse() again", x.fuse(), 3);
        }
        x.change(1, 'X', 0);
        CHECKS.due("fuse() after change", x.fuse(), 4);
        CHECKS.due("look(0, 2) after change", x.look(0, 2), -1);
        CHECKS.due("look(1, 2) after change", x.look(1, 2), -1);
        x.add('V', 0);
        CHECKS.due("fuse() after add", x.fuse(), 5);
    }

    private static void letterAndNumber() {
        CHECKS.sentence("Of the instruction at a place: 0 its letter, 1 its N");
        CountedEngine x = Checks.engineOf("P-2147483648 L7 + J2147483647 S0");
        int[] letters = {'P', 'L', '+', 'J', 'S'};
        int[] numbers = {Integer.MIN_VALUE, 7, 0, Integer.MAX_VALUE, 0};
        for (int k = 0; k < 2; k++) {
            for (int place = 0; place < letters.length; place++) {
                CHECKS.due("look(" + place + ", 0)", x.look(place, 0), letters[place]);
                CHECKS.due("look(" + place + ", 1)", x.look(place, 1), numbers[place]);
            }
            x.fuse();
        }
    }

    private static void rowsAndTargets() {
        CHECKS.sentence("2 the row's number, if a fused instruction begins there, NONE if it stayed alone, "
            + "-2 if it lies within one");
        CountedEngine x = Checks.fusedOf("L L L L P + S H J7");
        int[] rows = {15, -2, -2, 14, -2, -2, -2, FusedEngine.NONE, FusedEngine.NONE};
        for (int place = 0; place < rows.length; place++) {
            CHECKS.due("look(" + place + ", 2)", x.look(place, 2), rows[place]);
        }
        CHECKS.sentence("3 whether it is a target (1 or 0)");
        for (int place = 0; place < rows.length; place++) {
            CHECKS.due("look(" + place + ", 3)", x.look(place, 3), place == 7 ? 1 : 0);
        }
        // Row 0 is told from NONE and from "within".
        CHECKS.due("row 0", Checks.fusedOf("L L").look(0, 2), 0);
    }

    private static void noSuchPlace() {
        CHECKS.sentence("NoSuchElementException when there is no such place");
        CountedEngine empty = new CountedEngine();
        CountedEngine x = Checks.fusedOf("P5 P6 +");
        CountedEngine full = Checks.fusedOf(Checks.times(80, "P1"));
        for (int w = -1; w < 5; w++) {
            int what = w;
            for (int place : new int[] {-1, 0, 1, 80, FAR[0], FAR[1]}) {
                CHECKS.dueThrow("empty: look(" + place + ", " + what + ")", NoSuchElementException.class,
                    () -> empty.look(place, what));
            }
            for (int place : new int[] {-1, 3, 79, 80, FAR[0], FAR[1]}) {
                CHECKS.dueThrow("look(" + place + ", " + what + ")", NoSuchElementException.class,
                    () -> x.look(place, what));
            }
            for (int place : new int[] {-1, 80, FAR[0], FAR[1]}) {
                CHECKS.dueThrow("full: look(" + place + ", " + what + ")", NoSuchElementException.class,
                    () -> full.look(place, what));
            }
        }
        CHECKS.due("the first place", x.look(0, 0), 'P');
        CHECKS.due("the last place", x.look(2, 0), '+');
        CHECKS.due("full: the last place", full.look(79, 0), 'P');
    }

    private static void anotherWhat() {
        CHECKS.sentence("for another what");
        CountedEngine x = Checks.fusedOf("P5 P6 +");
        CountedEngine plain = Checks.engineOf("P5 P6 +");
        for (int what : new int[] {-2, -1, 4, 5, FAR[0], FAR[1]}) {
            CHECKS.dueThrow("look(0, " + what + ")", NoSuchElementException.class, () -> x.look(0, what));
            CHECKS.dueThrow("not fused: look(0, " + what + ")", NoSuchElementException.class, () -> plain.look(0, what));
        }
    }

    private static void notFused() {
        CHECKS.sentence("and for 2 when the program is not fused");
        CountedEngine x = Checks.engineOf("P5 S6");
        CHECKS.dueThrow("never fused", NoSuchElementException.class, () -> x.look(0, 2));
        x.fuse();
        CHECKS.due("fused", x.look(0, 2), 10);
        x.change(0, 'P', 5);
        CHECKS.dueThrow("changed", NoSuchElementException.class, () -> x.look(0, 2));
        x.fuse();
        x.add('H', 0);
        CHECKS.dueThrow("added to", NoSuchElementException.class, () -> x.look(0, 2));
        x.fuse();
        x.clear();
        x.add('H', 0);
        CHECKS.dueThrow("cleared", NoSuchElementException.class, () -> x.look(0, 2));
        x.fuse();
        x.restart();
        x.run(Checks.PLAIN, 9);
        CHECKS.due("restarted and run, and still fused", x.look(0, 2), FusedEngine.NONE);
    }

    private static void targetsBeforeFusing() {
        CHECKS.sentence("3 whether it is a target (1 or 0)");
        CountedEngine x = Checks.engineOf("P5 P6 J1");
        CHECKS.due("not fused: look(0, 3)", x.look(0, 3), 0);
        CHECKS.due("not fused: look(1, 3)", x.look(1, 3), 1);
        x.change(2, 'J', 0);
        CHECKS.due("changed: look(0, 3)", x.look(0, 3), 1);
        CHECKS.due("changed: look(1, 3)", x.look(1, 3), 0);
    }
}
