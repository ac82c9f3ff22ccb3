import java.util.NoSuchElementException;

/** Promises 1 (a new object) and 8 (restart). */
public final class BeginningTest {
    private static final Checks CHECKS = new Checks();
    // Leaves something in every part of a machine: stack, local, return place, output, place, counts.
    private static final String BUSY = "P7 S3 P8 O P9 P1 C8 H P2 + H";

    public static void main(String[] args) {
        newObject();
        restartAfterRuns();
        restartKeepsProgramAndFusing();
        restartAfterTrap();
        CHECKS.end();
    }

    private static void newObject() {
        FusedEngine x = new FusedEngine();
        CHECKS.due("NONE", FusedEngine.NONE, -1);
        CHECKS.dueBeginning("new", x);
        CHECKS.dueThrow("new: look(0, 0)", NoSuchElementException.class, () -> x.look(0, 0));
        CHECKS.dueThrow("new: look(0, 3)", NoSuchElementException.class, () -> x.look(0, 3));
        CHECKS.dueThrow("new: run(true, 1)", IllegalStateException.class, () -> x.run(true, 1));
        for (boolean fused : Checks.BOTH) {
            CHECKS.dueThrow("new: stack", NoSuchElementException.class, () -> x.stack(fused, 0));
            CHECKS.dueThrow("new: out", NoSuchElementException.class, () -> x.out(fused, 0));
        }
        CHECKS.due("new: fuse()", x.fuse(), 0);
        FusedEngine other = new FusedEngine();
        other.add('P', 1);
        CHECKS.due("objects are apart: fuse()", x.fuse(), 0);
    }

    private static void restartAfterRuns() {
        FusedEngine x = Checks.fusedOf(BUSY);
        x.run(Checks.PLAIN, 100);
        x.run(Checks.FUSED, 100);
        CHECKS.dueAbout("busy", x, Checks.PLAIN, 10, 2, 1, 1, 5, 10);
        CHECKS.dueAbout("busy", x, Checks.FUSED, 10, 2, 1, 1, 5, 10);
        x.restart();
        CHECKS.dueBeginning("restarted", x);
        for (boolean fused : Checks.BOTH) {
            CHECKS.dueThrow("restarted: stack", NoSuchElementException.class, () -> x.stack(fused, 0));
            CHECKS.dueThrow("restarted: out", NoSuchElementException.class, () -> x.out(fused, 0));
        }
        CHECKS.due("restarted: run(false, 100)", x.run(Checks.PLAIN, 100), 10);
        CHECKS.due("restarted: run(true, 100)", x.run(Checks.FUSED, 100), 8);
        CHECKS.dueStack("restarted and run", x, Checks.FUSED, 9, 3);
    }

    private static void restartKeepsProgramAndFusing() {
        FusedEngine x = Checks.fusedOf(BUSY);
        x.restart();
        CHECKS.due("restarted: look(0, 2)", x.look(0, 2), 10);
        CHECKS.due("restarted: look(10, 0)", x.look(10, 0), 'H');
        FusedEngine y = Checks.engineOf(BUSY);
        y.restart();
        CHECKS.dueThrow("not fused by restart", IllegalStateException.class, () -> y.run(true, 1));
    }

    private static void restartAfterTrap() {
        FusedEngine x = Checks.fusedOf("V");
        x.run(Checks.PLAIN, 1);
        x.run(Checks.FUSED, 1);
        CHECKS.due("trapped", x.about(Checks.PLAIN, 4), 1);
        CHECKS.due("trapped", x.about(Checks.FUSED, 4), 1);
        x.restart();
        CHECKS.dueBeginning("restarted after a trap", x);
        CHECKS.due("it goes again", x.run(Checks.PLAIN, 1), 1);
    }
}
