import java.util.NoSuchElementException;

/** Promises 1 (a new object) and 8 (restart). */
public final class BeginningTest {
    private static final Checks CHECKS = new Checks();
    // Leaves something in every part of a machine: stack, local, return place, output, place, counts.
    private static final String BUSY = "P7 S3 P8 O P9 P1 C8 H P2 + H";

    public static void main(String[] args) {
        noInstructions();
        machinesOfANewObject();
        objectsAreApart();
        restarts();
        restartInEveryWay();
        restartKeepsProgramAndFusing();
        restartOfANewObject();
        CHECKS.end();
    }

    private static void noInstructions() {
        CHECKS.sentence("No instructions");
        CountedEngine x = new CountedEngine();
        for (int w = 0; w < 4; w++) {
            int what = w;
            CHECKS.dueThrow("look(0, " + what + ")", NoSuchElementException.class, () -> x.look(0, what));
        }
        CHECKS.dueThrow("change(0, P, 1)", NoSuchElementException.class, () -> x.change(0, 'P', 1));
        CHECKS.dueThrow("run(true, 1), as it is not fused", IllegalStateException.class, () -> x.run(Checks.FUSED, 1));
        CHECKS.due("run(false, 1)", x.run(Checks.PLAIN, 1), 0);
        CHECKS.due("about(false, 4)", x.about(Checks.PLAIN, 4), 4);
        CHECKS.due("add(P, 1)", x.add('P', 1), 0);
        CHECKS.due("fuse()", new CountedEngine().fuse(), 0);
    }

    private static void machinesOfANewObject() {
        CHECKS.sentence("both machines at their beginning");
        CountedEngine x = new CountedEngine();
        CHECKS.dueBeginning("new", x);
        for (boolean fused : Checks.BOTH) {
            CHECKS.dueThrow("stack(" + fused + ", 0)", NoSuchElementException.class, () -> x.stack(fused, 0));
            CHECKS.dueThrow("out(" + fused + ", 0)", NoSuchElementException.class, () -> x.out(fused, 0));
        }
    }

    private static void objectsAreApart() {
        CHECKS.sentence("No instructions; both machines at their beginning.");
        CountedEngine x = Checks.ranOf(BUSY);
        CountedEngine y = new CountedEngine();
        CHECKS.dueBeginning("a second object", y);
        CHECKS.dueThrow("a second object: look(0, 0)", NoSuchElementException.class, () -> y.look(0, 0));
        y.add('H', 0);
        CHECKS.due("the first keeps its own", x.look(0, 0), 'P');
        CHECKS.due("the first stands where it stood", x.about(Checks.PLAIN, 0), 10);
    }

    private static void restarts() {
        CHECKS.sentence("Both machines are at their beginning.");
        CountedEngine x = Checks.ranOf(BUSY);
        for (boolean fused : Checks.BOTH) {
            CHECKS.dueAbout("busy", x, fused, 10, 2, 1, 1, 5, 10);
        }
        x.restart();
        CHECKS.dueBeginning("restarted", x);
        for (boolean fused : Checks.BOTH) {
            CHECKS.dueThrow("restarted: stack", NoSuchElementException.class, () -> x.stack(fused, 0));
            CHECKS.dueThrow("restarted: out", NoSuchElementException.class, () -> x.out(fused, 0));
        }
        CHECKS.due("restarted: run(false, 100)", x.run(Checks.PLAIN, 100), 10);
        CHECKS.due("restarted: run(true, 100)", x.run(Checks.FUSED, 100), 8);
        for (boolean fused : Checks.BOTH) {
            CHECKS.dueAbout("the same again", x, fused, 10, 2, 1, 1, 5, 10);
            CHECKS.dueStack("the same again", x, fused, 9, 3);
        }
    }

    private static void restartInEveryWay() {
        CHECKS.sentence("Both machines are at their beginning.");
        for (String text : new String[] {"P1 S1 J1", "P1 S1 V", "P1 S1 C0", "P1 S1 P1 P0 /", "P1 S1 J-1", "P1 S1 H"}) {
            CountedEngine x = Checks.ranOf(text);
            x.restart();
            CHECKS.dueBeginning(text, x);
            for (boolean fused : Checks.BOTH) {
                CHECKS.due(text + ": it goes again", x.run(fused, 1), 1);
            }
            x.restart();
            x.restart();
            CHECKS.dueBeginning(text + ", restarted twice", x);
        }
        // One machine has run, the other has not.
        for (boolean fused : Checks.BOTH) {
            CountedEngine x = Checks.fusedOf(BUSY);
            x.run(fused, 5);
            x.restart();
            CHECKS.dueBeginning("only one has run", x);
        }
    }

    private static void restartKeepsProgramAndFusing() {
        CHECKS.sentence("Both machines are at their beginning.");
        CountedEngine x = Checks.fusedOf(BUSY);
        x.restart();
        CHECKS.due("restarted: look(0, 2)", x.look(0, 2), 10);
        CHECKS.due("restarted: look(10, 0)", x.look(10, 0), 'H');
        CHECKS.due("restarted: look(8, 3)", x.look(8, 3), 1);
        CountedEngine y = Checks.engineOf(BUSY);
        y.restart();
        CHECKS.dueThrow("not fused by restart", IllegalStateException.class, () -> y.run(Checks.FUSED, 1));
        CHECKS.dueThrow("not fused by restart", NoSuchElementException.class, () -> y.look(0, 2));
    }

    private static void restartOfANewObject() {
        CHECKS.sentence("Both machines are at their beginning.");
        CountedEngine x = new CountedEngine();
        x.restart();
        CHECKS.dueBeginning("new and restarted", x);
        x.run(Checks.PLAIN, 1);
        CHECKS.due("lost in the empty program", x.about(Checks.PLAIN, 4), 4);
        x.restart();
        CHECKS.dueBeginning("restarted from there", x);
    }
}
