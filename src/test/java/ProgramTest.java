import java.util.NoSuchElementException;

/** Promises 2 (add), 3 (change) and 4 (clear); what refused calls leave stands in RefusalTest. */
public final class ProgramTest {
    private static final Checks CHECKS = new Checks();
    private static final int[] FAR = {Integer.MIN_VALUE, Integer.MAX_VALUE};
    // One for each way in which a machine can be: it goes on, traps 1 to 4, it ended.
    private static final String[] WAYS = {
        "P1 S2 P3 J3", "P1 S2 P3 O O", "P1 S2 C0", "P1 S2 P3 P0 /", "P1 S2 P3 J-1", "P1 S2 P3 O C7 H P4 P5 H",
    };

    public static void main(String[] args) {
        addAtTheEnd();
        addEndsFusing();
        letters();
        numbersOfLocals();
        otherNumbers();
        full();
        changes();
        changeEndsFusing();
        changeOfNoPlace();
        changeToNoInstruction();
        whichIsSaidFirst();
        clears();
        clearEndsFusing();
        clearTakesTargets();
        CHECKS.end();
    }

    private static void dueNotFused(String when, CountedEngine x) {
        CHECKS.dueBeginning(when, x);
        CHECKS.dueThrow(when + ": run(true, 0)", IllegalStateException.class, () -> x.run(Checks.FUSED, 0));
        CHECKS.dueThrow(when + ": look(0, 2)", NoSuchElementException.class, () -> x.look(0, 2));
        for (boolean fused : Checks.BOTH) {
            CHECKS.dueThrow(when + ": stack(0)", NoSuchElementException.class, () -> x.stack(fused, 0));
            CHECKS.dueThrow(when + ": out(0)", NoSuchElementException.class, () -> x.out(fused, 0));
        }
    }

    private static void addAtTheEnd() {
        CHECKS.sentence("An instruction more at the end. Answers its place.");
        CountedEngine x = new CountedEngine();
        int place = 0;
        for (char letter : Checks.LETTERS.toCharArray()) {
            CHECKS.due("add(" + letter + ", " + place % 8 + ")", x.add(letter, place % 8), place);
            place++;
        }
        for (int k = 0; k < place; k++) {
            CHECKS.due("look(" + k + ", 0)", x.look(k, 0), Checks.LETTERS.charAt(k));
            CHECKS.due("look(" + k + ", 1)", x.look(k, 1), k % 8);
        }
    }

    private static void addEndsFusing() {
        CHECKS.sentence("It is not fused then, and both machines are at their beginning (so it is with change).");
        for (String way : WAYS) {
            CountedEngine x = Checks.ranOf(way);
            CHECKS.due(way + ": add", x.add('H', 0), way.split(" ").length);
            dueNotFused(way + ": added to", x);
        }
        CountedEngine empty = new CountedEngine();
        empty.fuse();
        empty.add('P', 1);
        dueNotFused("added to the fused empty one", empty);
    }

    private static void letters() {
        CHECKS.sentence("IllegalArgumentException when letter is none of those said");
        CountedEngine x = new CountedEngine();
        for (int letter = -70; letter < 400; letter++) {
            int one = letter;
            if (letter >= 0 && Checks.LETTERS.indexOf(letter) >= 0) {
                x.add(letter, 0);
            } else {
                CHECKS.dueThrow("add(" + one + ", 0)", IllegalArgumentException.class, () -> x.add(one, 0));
            }
        }
        CHECKS.due("18 letters", x.add('H', 0), 18);
        // Those of which the lower bits, or the bits of a char, are a letter's.
        int[] alike = {'P' + 256, 'P' - 256, 'P' + 65536, 'P' - 65536, 'L' + (1 << 24), -'P', FAR[0], FAR[1]};
        for (int letter : alike) {
            CHECKS.dueThrow("add(" + letter + ", 0)", IllegalArgumentException.class, () -> x.add(letter, 0));
            CHECKS.dueThrow("change(0, " + letter + ", 0)", IllegalArgumentException.class, () -> x.change(0, letter, 0));
        }
    }

    private static void numbersOfLocals() {
        CHECKS.sentence("or for L and S n is not 0 .. 7");
        for (char letter : new char[] {'L', 'S'}) {
            CountedEngine x = new CountedEngine();
            for (int n = 0; n < 8; n++) {
                CHECKS.due("add(" + letter + ", " + n + ")", x.add(letter, n), n);
                x.change(0, letter, n);
                CHECKS.due("look(0, 1)", x.look(0, 1), n);
            }
            for (int n : new int[] {-2, -1, 8, 9, 256, 65536, FAR[0], FAR[1]}) {
                CHECKS.dueThrow("add(" + letter + ", " + n + ")", IllegalArgumentException.class, () -> x.add(letter, n));
                CHECKS.dueThrow("change(0, " + letter + ", " + n + ")", IllegalArgumentException.class,
                    () -> x.change(0, letter, n));
            }
            CHECKS.due("none was added", x.add(letter, 0), 8);
        }
    }

    private static void otherNumbers() {
        CHECKS.sentence("or for L and S n is not 0 .. 7");
        for (char letter : Checks.LETTERS.replaceAll("[LS]", "").toCharArray()) {
            CountedEngine x = new CountedEngine();
            for (int n : new int[] {-1, 0, 7, 8, 80, FAR[0], FAR[1]}) {
                int place = x.add(letter, n);
                CHECKS.due("add(" + letter + ", " + n + ")", x.look(place, 1), n);
                x.change(0, letter, n);
                CHECKS.due("change(0, " + letter + ", " + n + ")", x.look(0, 1), n);
            }
        }
    }

    private static void full() {
        CHECKS.sentence("IllegalStateException when there are 80");
        for (char letter : Checks.LETTERS.toCharArray()) {
            CountedEngine x = Checks.engineOf(Checks.times(79, "P1"));
            CHECKS.due("the 80th", x.add(letter, 1), 79);
            CHECKS.dueThrow("the 81st", IllegalStateException.class, () -> x.add(letter, 1));
            CHECKS.dueThrow("the 81st again", IllegalStateException.class, () -> x.add(letter, 1));
        }
    }

    private static void changes() {
        CHECKS.sentence("The instruction at a place becomes another one.");
        CountedEngine x = Checks.engineOf("P1 P2 P3");
        x.change(0, 'L', 7);
        x.change(2, 'J', -5);
        String[] want = "L7 P2 J-5".split(" ");
        for (int place = 0; place < 3; place++) {
            CHECKS.due("look(" + place + ", 0)", x.look(place, 0), want[place].charAt(0));
            CHECKS.due("look(" + place + ", 1)", x.look(place, 1), Integer.parseInt(want[place].substring(1)));
        }
        CHECKS.due("add after change", x.add('H', 0), 3);
        // The machines run what stands there now.
        CountedEngine y = Checks.fusedOf("P1 S2 L2 O H");
        y.change(0, 'P', 9);
        y.change(2, 'P', 8);
        CHECKS.due("fuse()", y.fuse(), 4);
        for (boolean fused : Checks.BOTH) {
            y.run(fused, 9);
            CHECKS.due("local(2)", y.local(fused, 2), 9);
            CHECKS.due("out(0)", y.out(fused, 0), 8);
        }
    }

    private static void changeEndsFusing() {
        CHECKS.sentence("It is not fused then, and both machines are at their beginning (so it is with change).");
        for (String way : WAYS) {
            CountedEngine x = Checks.ranOf(way);
            // Even to the very same instruction.
            x.change(0, 'P', 1);
            dueNotFused(way + ": changed", x);
        }
    }

    private static void changeOfNoPlace() {
        CHECKS.sentence("NoSuchElementException when there is none");
        for (int size : new int[] {0, 1, 3, 79, 80}) {
            CountedEngine x = new CountedEngine();
            for (int k = 0; k < size; k++) {
                x.add('P', k);
            }
            for (int place : new int[] {-1, size, size + 1, 80, 81, FAR[0], FAR[1]}) {
                CHECKS.dueThrow(size + ": change(" + place + ")", NoSuchElementException.class,
                    () -> x.change(place, 'P', 0));
            }
            if (size > 0) {
                x.change(0, 'V', 0);
                x.change(size - 1, 'O', 0);
                CHECKS.due(size + ": the last place", x.look(size - 1, 0), 'O');
                CHECKS.due(size + ": the first place", x.look(0, 0), size == 1 ? 'O' : 'V');
            }
        }
        CountedEngine cleared = Checks.engineOf("P1 P2");
        cleared.clear();
        CHECKS.dueThrow("cleared: change(0)", NoSuchElementException.class, () -> cleared.change(0, 'P', 0));
    }

    private static void changeToNoInstruction() {
        CHECKS.sentence("IllegalArgumentException likewise.");
        CountedEngine x = Checks.engineOf("P1 P2 P3");
        for (int place = 0; place < 3; place++) {
            int one = place;
            for (int letter : new int[] {'A', 'p', 0, -1, ' ', 256 + 'P'}) {
                CHECKS.dueThrow("change(" + one + ", " + letter + ")", IllegalArgumentException.class,
                    () -> x.change(one, letter, 0));
            }
        }
    }

    private static void whichIsSaidFirst() {
        CHECKS.sentence("IllegalArgumentException when letter is none of those said, or for L and S n is not 0 .. 7; "
            + "IllegalStateException when there are 80.");
        CountedEngine full = Checks.engineOf(Checks.times(80, "P1"));
        CHECKS.dueThrow("full and a wrong letter", IllegalArgumentException.class, () -> full.add('A', 1));
        CHECKS.dueThrow("full and a wrong local", IllegalArgumentException.class, () -> full.add('L', 8));
        CHECKS.sentence("NoSuchElementException when there is none; IllegalArgumentException likewise.");
        CHECKS.dueThrow("no place and a wrong letter", NoSuchElementException.class, () -> full.change(80, 'A', 1));
        CHECKS.dueThrow("no place and a wrong local", NoSuchElementException.class, () -> full.change(-1, 'S', -1));
    }

    private static void clears() {
        CHECKS.sentence("No instructions any more, likewise.");
        CountedEngine x = new CountedEngine();
        for (int size : new int[] {0, 1, 80}) {
            for (int k = 0; k < size; k++) {
                x.add('P', k);
            }
            x.clear();
            CHECKS.dueThrow("cleared: look(0, 0)", NoSuchElementException.class, () -> x.look(0, 0));
            CHECKS.dueThrow("cleared: look(79, 0)", NoSuchElementException.class, () -> x.look(79, 0));
            CHECKS.due("cleared: fuse()", x.fuse(), 0);
            CHECKS.due("cleared: run(false, 9)", x.run(Checks.PLAIN, 9), 0);
            CHECKS.due("cleared: about(false, 4)", x.about(Checks.PLAIN, 4), 4);
            x.clear();
            CHECKS.dueBeginning("cleared twice", x);
        }
        CHECKS.due("cleared: add", x.add('V', 0), 0);
        CHECKS.dueThrow("cleared, one added: look(1, 0)", NoSuchElementException.class, () -> x.look(1, 0));
    }

    private static void clearEndsFusing() {
        CHECKS.sentence("No instructions any more, likewise.");
        for (String way : WAYS) {
            CountedEngine x = Checks.ranOf(way);
            x.clear();
            dueNotFused(way + ": cleared", x);
        }
    }

    private static void clearTakesTargets() {
        CHECKS.sentence("No instructions any more, likewise.");
        CountedEngine x = Checks.engineOf("J1 P1 P1");
        CHECKS.due("target", x.look(1, 3), 1);
        x.clear();
        Checks.addAll(x, "H P1 S1");
        CHECKS.due("no target any more", x.look(1, 3), 0);
        CHECKS.due("fuse()", x.fuse(), 2);
    }
}
