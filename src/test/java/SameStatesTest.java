import java.util.List;

/** What the engine is: whole programs, run as they were and as they are fused, side by side. */
public final class SameStatesTest {
    private static final Checks CHECKS = new Checks();
    private static final int WITHIN = -2;

    public static void main(String[] args) {
        loops();
        jumpsInBetween();
        calls();
        rowsOneAfterTheOther();
        traps();
        lost();
        CHECKS.end();
    }

    private static void loops() {
        // The sum of the squares of 1 to 10.
        dueOutputs("P10 S0 P0 S1 L1 L0 D * + S1 L0 P1 - S0 L0 P0 = Z4 L1 O H", 385);
        // The numbers of Fibonacci below 50.
        dueOutputs("P0 S0 P1 S1 L0 O L0 L1 + L1 S0 S1 L0 P50 < Z17 J4 H", 0, 1, 1, 2, 3, 5, 8, 13, 21, 34);
        // The greatest common divisor of 48 and 36, by subtracting.
        dueOutputs("P48 S0 P36 S1 L0 L1 = Z11 L0 O H L0 L1 < Z20 L1 L0 - S1 J4 L0 L1 - S0 J4", 12);
        dueOutputs("L0 O L0 P1 + S0 J8 H L0 P5 < Z7 J0", 0, 1, 2, 3, 4);
    }

    private static void jumpsInBetween() {
        // Each leads to a place that would lie within a row: SL, LP+S and P=Z.
        dueOutputs("P3 D S0 L0 O L0 P1 - S0 L0 Z12 J3 H", 3, 2, 1);
        dueOutputs("P0 J3 L0 P1 + S0 L0 O L0 P4 = Z2 H", 1, 2, 3, 4);
        dueOutputs("P1 P2 J4 P9 = Z7 H P8 O P9 J3", 8);
    }

    private static void calls() {
        // The product of 1 to N by calls within calls; from 9 it needs all ten return places.
        dueOutputs("P5 S0 P1 C6 O H L0 Z15 L0 * L0 P1 - S0 C6 R", 120);
        dueOutputs("P9 S0 P1 C6 O H L0 Z15 L0 * L0 P1 - S0 C6 R", 362880);
        // Called from three places, each return place being a target.
        dueOutputs("P3 C10 O P4 C10 O P5 C10 O H D * D O R", 9, 9, 16, 16, 25, 25);
    }

    private static void rowsOneAfterTheOther() {
        dueOutputs("P4 S0 P9 V L0 D O L0 - O H", 4, 0);
        dueOutputs("P2 S0 P3 S1 L0 L1 L0 + * O L1 D X - O L0 L1 + P7 - O H", 10, 0, -2);
        dueOutputs("P6 S7 L7 P1 + S7 L7 L7 L7 + + O P7 L7 = Z16 P1 O H", 21, 1);
    }

    private static void traps() {
        dueState("P7 O P5 +", 1);
        dueState("P7 J2 D * D X V V V L0 +", 1);
        dueState("P10 S0 P1 C6 O H L0 Z15 L0 * L0 P1 - S0 C6 R", 2);
        // The 41st value is the row's first, and its second.
        dueState("L0 P1 J0", 2);
        dueState("P3 J2 L0 P1 J2", 2);
        dueState("P3 S0 P12 L0 / O L0 P1 - S0 J2", 3);
    }

    private static void lost() {
        dueState("L0 P0 < Z99 H", 4);
        dueState("P1 O L0 L0", 4);
        dueState("J2 R C1", 4);
    }

    private static void dueOutputs(String text, int... want) {
        dueState(text, 5);
        CHECKS.sentence("two machines run the program as it was and as it is fused");
        CountedEngine x = Checks.fusedOf(text);
        int plainSteps = x.run(Checks.PLAIN, 3000);
        CHECKS.due(text + ": the fused one needs fewer steps", x.run(Checks.FUSED, 3000) < plainSteps ? 1 : 0, 1);
        for (boolean fused : Checks.BOTH) {
            CHECKS.due(text + ": about(" + fused + ", 3)", x.about(fused, 3), want.length);
            for (int k = 0; k < want.length && k < x.about(fused, 3); k++) {
                CHECKS.due(text + ": out(" + fused + ", " + k + ")", x.out(fused, k), want[k]);
            }
        }
    }

    private static void dueState(String text, int want) {
        CHECKS.sentence("with the same states wherever the fused one stands");
        CountedEngine x = Checks.fusedOf(text);
        int steps = x.run(Checks.FUSED, 3000);
        CHECKS.due(text + ": about(true, 4)", x.about(Checks.FUSED, 4), want);
        for (int k = 0; k <= steps + 1; k++) {
            dueSameAfter(text, k);
        }
    }

    /** The plain machine, having done as many instructions, is as the fused one after so many steps. */
    private static void dueSameAfter(String text, int steps) {
        CountedEngine x = Checks.fusedOf(text);
        x.run(Checks.FUSED, steps);
        x.run(Checks.PLAIN, x.about(Checks.FUSED, 5));
        int state = x.about(Checks.FUSED, 4);
        if (state >= 1 && state <= 4) {
            // What trapped is not among those done.
            x.run(Checks.PLAIN, 1);
        }
        String when = text + ", after " + steps + " steps";
        CHECKS.due(when + ": about(4)", x.about(Checks.PLAIN, 4), state);
        List<String> plain = Answers.ofParts(x, Checks.PLAIN);
        List<String> fused = Answers.ofParts(x, Checks.FUSED);
        fused.replaceAll(line -> line.replace("(true, ", "(false, "));
        CHECKS.dueSame(when, plain, fused);
        if (state == 0 && x.about(Checks.FUSED, 0) < text.split(" ").length) {
            int row = x.look(x.about(Checks.FUSED, 0), 2);
            CHECKS.due(when + ": stands within a row", row == WITHIN ? 1 : 0, 0);
        }
    }
}
