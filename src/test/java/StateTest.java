import java.util.NoSuchElementException;

/** Promises 9 (about), 10 (stack), 11 (local) and 12 (out). */
public final class StateTest {
    private static final Checks CHECKS = new Checks();
    private static final int[] WRONG = {-1, Integer.MIN_VALUE, Integer.MAX_VALUE};

    public static void main(String[] args) {
        about();
        stack();
        local();
        out();
        outBeyondKept();
        CHECKS.end();
    }

    private static void about() {
        FusedEngine x = Checks.ranOf("P1 P2 P3 O C6 H C8 H P4 D O O H");
        for (boolean fused : Checks.BOTH) {
            CHECKS.dueAbout("about", x, fused, 12, 2, 2, 3, 5, 11);
            for (int what : new int[] {-1, 6, 7, Integer.MIN_VALUE, Integer.MAX_VALUE}) {
                CHECKS.due("about(" + fused + ", " + what + ")", x.about(fused, what), FusedEngine.NONE);
            }
        }
        FusedEngine unfused = Checks.engineOf("P1 H");
        unfused.run(Checks.PLAIN, 9);
        CHECKS.dueAbout("not fused, asked all the same", unfused, Checks.FUSED, 0, 0, 0, 0, 0, 0);
        CHECKS.due("not fused: local(true, 0)", unfused.local(Checks.FUSED, 0), 0);
    }

    private static void stack() {
        FusedEngine x = Checks.ranOf("P5 P6 P7 V H");
        for (boolean fused : Checks.BOTH) {
            CHECKS.dueStack("stack", x, fused, 5, 6);
            // 7 was there, and is gone.
            CHECKS.dueThrow("stack(2)", NoSuchElementException.class, () -> x.stack(fused, 2));
            CHECKS.dueThrow("stack(40)", NoSuchElementException.class, () -> x.stack(fused, 40));
            for (int k : WRONG) {
                CHECKS.dueThrow("stack(" + k + ")", NoSuchElementException.class, () -> x.stack(fused, k));
            }
        }
        FusedEngine full = Checks.ranOf(Checks.times(39, "P1") + " P9");
        for (boolean fused : Checks.BOTH) {
            CHECKS.due("stack(39)", full.stack(fused, 39), 9);
            CHECKS.dueThrow("stack(40)", NoSuchElementException.class, () -> full.stack(fused, 40));
        }
    }

    private static void local() {
        StringBuilder words = new StringBuilder();
        for (int k = 0; k < 8; k++) {
            words.append('P').append(k * 11 + 1).append(" S").append(k).append(' ');
        }
        FusedEngine x = Checks.ranOf(words + "H");
        for (boolean fused : Checks.BOTH) {
            for (int k = 0; k < 8; k++) {
                CHECKS.due("local(" + fused + ", " + k + ")", x.local(fused, k), k * 11 + 1);
            }
            CHECKS.dueThrow("local(8)", NoSuchElementException.class, () -> x.local(fused, 8));
            for (int k : WRONG) {
                CHECKS.dueThrow("local(" + k + ")", NoSuchElementException.class, () -> x.local(fused, k));
            }
        }
    }

    private static void out() {
        FusedEngine x = Checks.ranOf("P5 O P-6 O P7 O H");
        int[] want = {5, -6, 7};
        for (boolean fused : Checks.BOTH) {
            for (int k = 0; k < want.length; k++) {
                CHECKS.due("out(" + fused + ", " + k + ")", x.out(fused, k), want[k]);
            }
            CHECKS.dueThrow("out(3)", NoSuchElementException.class, () -> x.out(fused, 3));
            for (int k : WRONG) {
                CHECKS.dueThrow("out(" + k + ")", NoSuchElementException.class, () -> x.out(fused, k));
            }
        }
    }

    private static void outBeyondKept() {
        // Puts out 0, 1, 2, .. : local 0 goes up by one each time round, in 7 plain or 4 fused steps.
        FusedEngine x = Checks.fusedOf("L0 O L0 P1 + S0 J0");
        int[] stepsOfRound = {7, 4};
        for (boolean fused : Checks.BOTH) {
            int round = stepsOfRound[fused ? 1 : 0];
            x.run(fused, 59 * round);
            CHECKS.due("59 put out", x.about(fused, 3), 59);
            CHECKS.dueThrow("out(59) of 59", NoSuchElementException.class, () -> x.out(fused, 59));
            x.run(fused, round);
            CHECKS.due("60 put out", x.about(fused, 3), 60);
            CHECKS.due("out(59) of 60", x.out(fused, 59), 59);
            x.run(fused, 2 * round);
            CHECKS.due("62 put out", x.about(fused, 3), 62);
            CHECKS.due("goes on", x.about(fused, 4), 0);
            for (int k = 0; k < 60; k++) {
                CHECKS.due("out(" + fused + ", " + k + ")", x.out(fused, k), k);
            }
            CHECKS.dueThrow("out(60)", NoSuchElementException.class, () -> x.out(fused, 60));
            CHECKS.dueThrow("out(61)", NoSuchElementException.class, () -> x.out(fused, 61));
        }
        x.restart();
        for (boolean fused : Checks.BOTH) {
            CHECKS.dueThrow("restarted: out(0)", NoSuchElementException.class, () -> x.out(fused, 0));
        }
    }
}
