/** Promise 7 (run): steps, their number, and where the fused machine stands. */
public final class RunTest {
    private static final Checks CHECKS = new Checks();

    public static void main(String[] args) {
        counts();
        bounds();
        fusedNeedsFusing();
        stepsOfTheFusedOne();
        trapWithinRow();
        endings();
        lostWhenLookedFor();
        machinesAreApart();
        CHECKS.end();
    }

    private static void counts() {
        FusedEngine x = Checks.engineOf("P1 P2 + H");
        CHECKS.due("run(false, 1)", x.run(Checks.PLAIN, 1), 1);
        CHECKS.dueAbout("one step", x, Checks.PLAIN, 1, 1, 0, 0, 0, 1);
        CHECKS.due("run(false, 2)", x.run(Checks.PLAIN, 2), 2);
        CHECKS.dueAbout("three steps", x, Checks.PLAIN, 3, 1, 0, 0, 0, 3);
        CHECKS.due("run(false, 2)", x.run(Checks.PLAIN, 2), 1);
        CHECKS.dueAbout("ended", x, Checks.PLAIN, 3, 1, 0, 0, 5, 4);
        CHECKS.due("run(false, 2)", x.run(Checks.PLAIN, 2), 0);
        CHECKS.dueAbout("ended still", x, Checks.PLAIN, 3, 1, 0, 0, 5, 4);
    }

    private static void bounds() {
        FusedEngine x = Checks.fusedOf("J0");
        for (boolean fused : Checks.BOTH) {
            for (int n : new int[] {0, -1, -3000, Integer.MIN_VALUE}) {
                CHECKS.due("run(" + fused + ", " + n + ")", x.run(fused, n), 0);
                CHECKS.dueAbout("no step", x, fused, 0, 0, 0, 0, 0, 0);
            }
            CHECKS.due("2999", x.run(fused, 2999), 2999);
            CHECKS.due("3000", x.run(fused, 3000), 3000);
            CHECKS.due("3001", x.run(fused, 3001), 3000);
            CHECKS.due("most", x.run(fused, Integer.MAX_VALUE), 3000);
            CHECKS.dueAbout("all", x, fused, 0, 0, 0, 0, 0, 11999);
        }
        // Whole fused ones are the steps that are counted: P 1, S 0 are one.
        FusedEngine y = Checks.fusedOf("P1 S0 J0");
        CHECKS.due("run(true, 9999)", y.run(Checks.FUSED, 9999), 3000);
        CHECKS.due("about(true, 5)", y.about(Checks.FUSED, 5), 4500);
    }

    private static void fusedNeedsFusing() {
        FusedEngine x = Checks.engineOf("P1 H");
        CHECKS.dueThrow("run(true, 1)", IllegalStateException.class, () -> x.run(true, 1));
        CHECKS.dueThrow("run(true, 0)", IllegalStateException.class, () -> x.run(true, 0));
        CHECKS.dueThrow("run(true, -1)", IllegalStateException.class, () -> x.run(true, -1));
        CHECKS.due("run(false, 1)", x.run(Checks.PLAIN, 1), 1);
        CHECKS.dueThrow("run(true, 1)", IllegalStateException.class, () -> x.run(true, 1));
        CHECKS.dueAbout("nothing is changed", x, Checks.PLAIN, 1, 1, 0, 0, 0, 1);
        CHECKS.dueAbout("nothing is changed", x, Checks.FUSED, 0, 0, 0, 0, 0, 0);
    }

    private static void stepsOfTheFusedOne() {
        // Rows: PS, LP+S (a target), LP<Z, J, then H.
        FusedEngine x = Checks.engineOf("P0 S0 L0 P1 + S0 L0 P3 < Z11 J2 H");
        CHECKS.due("fuse()", x.fuse(), 5);
        int[] places = {2, 6, 10, 2, 6, 10, 2, 6, 11, 11};
        int[] done = {2, 6, 10, 11, 15, 19, 20, 24, 28, 29};
        for (int k = 0; k < places.length; k++) {
            CHECKS.due("step " + k, x.run(Checks.FUSED, 1), 1);
            CHECKS.dueAbout("step " + k, x, Checks.FUSED, places[k], 0, 0, 0, k == 9 ? 5 : 0, done[k]);
        }
        CHECKS.due("it is over", x.run(Checks.FUSED, 1), 0);
        CHECKS.due("plain", x.run(Checks.PLAIN, 3000), 29);
        CHECKS.due("local", x.local(Checks.PLAIN, 0), 3);
        CHECKS.due("local", x.local(Checks.FUSED, 0), 3);
    }

    private static void trapWithinRow() {
        // P+ with nothing below: P is done, + traps.
        FusedEngine x = Checks.fusedOf("P5 +");
        CHECKS.due("P+: run(true, 9)", x.run(Checks.FUSED, 9), 1);
        CHECKS.dueAbout("P+", x, Checks.FUSED, 1, 1, 0, 0, 1, 1);
        CHECKS.dueStack("P+", x, Checks.FUSED, 5);
        CHECKS.due("P+: run(false, 9)", x.run(Checks.PLAIN, 9), 2);
        CHECKS.dueAbout("P+", x, Checks.PLAIN, 1, 1, 0, 0, 1, 1);
        FusedEngine first = Checks.fusedOf("D X");
        CHECKS.due("DX: run(true, 9)", first.run(Checks.FUSED, 9), 1);
        CHECKS.dueAbout("DX", first, Checks.FUSED, 0, 0, 0, 0, 1, 0);
        FusedEngine last = Checks.fusedOf("J2 H V L0");
        CHECKS.due("VL: run(true, 9)", last.run(Checks.FUSED, 9), 2);
        CHECKS.dueAbout("VL", last, Checks.FUSED, 2, 0, 0, 0, 1, 1);
        // LP+S with 39 values: L is done, P traps; L- with none below: L is done, - traps.
        FusedEngine high = Checks.fusedOf(Checks.times(39, "P1") + " X X L P + S");
        CHECKS.due("LP+S: run(true, 99)", high.run(Checks.FUSED, 99), 42);
        CHECKS.dueAbout("LP+S", high, Checks.FUSED, 42, 40, 0, 0, 2, 42);
        FusedEngine minus = Checks.fusedOf("L0 - H");
        CHECKS.due("L-: run(true, 9)", minus.run(Checks.FUSED, 9), 1);
        CHECKS.dueAbout("L-", minus, Checks.FUSED, 1, 1, 0, 0, 1, 1);
    }

    private static void endings() {
        FusedEngine x = Checks.fusedOf("H");
        for (boolean fused : Checks.BOTH) {
            CHECKS.due("H counts as a step", x.run(fused, 5), 1);
            CHECKS.dueAbout("H", x, fused, 0, 0, 0, 0, 5, 1);
        }
        FusedEngine y = Checks.fusedOf("P1 O O");
        for (boolean fused : Checks.BOTH) {
            CHECKS.due("what trapped counts as a step", y.run(fused, 5), 3);
            CHECKS.dueAbout("O", y, fused, 2, 0, 0, 1, 1, 2);
        }
    }

    private static void lostWhenLookedFor() {
        FusedEngine x = Checks.fusedOf("J7");
        for (boolean fused : Checks.BOTH) {
            CHECKS.due("one step", x.run(fused, 1), 1);
            CHECKS.dueAbout("stands outside, and goes on", x, fused, 7, 0, 0, 0, 0, 1);
            CHECKS.due("no step", x.run(fused, 0), 0);
            CHECKS.due("no step was to be done", x.about(fused, 4), 0);
            CHECKS.due("LOST is no step", x.run(fused, 1), 0);
            CHECKS.dueAbout("lost", x, fused, 7, 0, 0, 0, 4, 1);
        }
        FusedEngine y = Checks.fusedOf("J7");
        for (boolean fused : Checks.BOTH) {
            CHECKS.due("LOST does not count", y.run(fused, 2), 1);
            CHECKS.dueAbout("lost at once", y, fused, 7, 0, 0, 0, 4, 1);
        }
        FusedEngine empty = new FusedEngine();
        CHECKS.due("empty: run(false, 0)", empty.run(Checks.PLAIN, 0), 0);
        CHECKS.due("empty: goes on", empty.about(Checks.PLAIN, 4), 0);
        CHECKS.due("empty: run(false, 1)", empty.run(Checks.PLAIN, 1), 0);
        CHECKS.dueAbout("empty", empty, Checks.PLAIN, 0, 0, 0, 0, 4, 0);
    }

    private static void machinesAreApart() {
        FusedEngine x = Checks.fusedOf("P1 S0 P2 O C7 H H P3 H");
        x.run(Checks.PLAIN, 99);
        CHECKS.dueAbout("the other stays", x, Checks.FUSED, 0, 0, 0, 0, 0, 0);
        CHECKS.due("the other stays", x.local(Checks.FUSED, 0), 0);
        x.restart();
        x.run(Checks.FUSED, 99);
        CHECKS.dueAbout("the plain stays", x, Checks.PLAIN, 0, 0, 0, 0, 0, 0);
        CHECKS.due("the plain stays", x.local(Checks.PLAIN, 0), 0);
    }
}
