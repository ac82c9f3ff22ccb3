import java.util.NoSuchElementException;

/** Promises 9 (about), 10 (stack), 11 (local) and 12 (out). */
public final class StateTest {
    private static final Checks CHECKS = new Checks();
    private static final int[] FAR = {Integer.MIN_VALUE, Integer.MAX_VALUE};

    public static void main(String[] args) {
        everyAbout();
        places();
        ways();
        done();
        anotherAbout();
        notFused();
        values();
        noSuchValue();
        locals();
        noSuchLocal();
        putOut();
        noSuchOutput();
        notKept();
        CHECKS.end();
    }

    private static void everyAbout() {
        CHECKS.sentence("Of the plain or the fused machine: its place (what 0), the height of its stack (1), "
            + "how many return places it has (2), how many values were put out (3)");
        CountedEngine x = Checks.ranOf("P1 P2 P3 O C6 H C8 H P4 D O O H");
        for (boolean fused : Checks.BOTH) {
            CHECKS.dueAbout("about", x, fused, 12, 2, 2, 3, 5, 11);
        }
    }

    private static void places() {
        CHECKS.sentence("its place (what 0)");
        // A place that is not in the program is told as it is, -1 too, which is not NONE here.
        for (int n : new int[] {1, 80, -1, -2, FAR[0], FAR[1]}) {
            CountedEngine x = Checks.fusedOf("J" + n);
            for (boolean fused : Checks.BOTH) {
                x.run(fused, 1);
                CHECKS.dueAbout("J" + n, x, fused, n, 0, 0, 0, 0, 1);
                x.run(fused, 1);
                CHECKS.dueAbout("J" + n, x, fused, n, 0, 0, 0, 4, 1);
            }
        }
    }

    private static void ways() {
        CHECKS.sentence("how it is (4: 0 it goes on, 1 to 4 it trapped, 5 it ended)");
        String[] texts = {"J0", "R", "C0", "P1 P0 /", "J1", "H"};
        for (int want = 0; want < texts.length; want++) {
            CountedEngine x = Checks.fusedOf(texts[want]);
            for (boolean fused : Checks.BOTH) {
                CHECKS.due(texts[want] + ": about(" + fused + ", 4) before", x.about(fused, 4), 0);
                x.run(fused, 3000);
                CHECKS.due(texts[want] + ": about(" + fused + ", 4)", x.about(fused, 4), want);
            }
        }
    }

    private static void done() {
        CHECKS.sentence("how many instructions it has done, those within fused ones each "
            + "(5; one that trapped is not counted)");
        dueDone("H", 1);
        dueDone("V", 0);
        dueDone("P5 V V", 2);
        dueDone("J-1", 1);
        dueDone("L P + S H", 5);
        dueDone("L P < Z9 H", 4);
        dueDone("L + H", 1);
        dueDone("L P - H", 4);
        dueDone("P5 P0 / H", 2);
        dueDone("C0", 10);
        // Of a row's four, the one before the trap alone.
        dueDone(Checks.times(39, "P1") + " J40 L P + S", 41);
    }

    private static void dueDone(String text, int want) {
        CountedEngine x = Checks.ranOf(text);
        for (boolean fused : Checks.BOTH) {
            CHECKS.due(text + ": about(" + fused + ", 5)", x.about(fused, 5), want);
        }
    }

    private static void anotherAbout() {
        CHECKS.sentence("NONE for another what");
        CHECKS.due("NONE", FusedEngine.NONE, -1);
        for (CountedEngine x : new CountedEngine[] {new CountedEngine(), Checks.engineOf("P1"), Checks.ranOf("P1 O H")}) {
            for (boolean fused : Checks.BOTH) {
                for (int what : new int[] {-2, -1, 6, 7, FAR[0], FAR[1]}) {
                    CHECKS.due("about(" + fused + ", " + what + ")", x.about(fused, what), -1);
                }
            }
        }
    }

    private static void notFused() {
        CHECKS.sentence("both machines are at their beginning");
        CountedEngine x = Checks.engineOf("P1 S0 P2 O P3 H");
        x.run(Checks.PLAIN, 9);
        CHECKS.dueAbout("the plain one ran", x, Checks.PLAIN, 5, 1, 0, 1, 5, 6);
        CHECKS.dueAbout("the fused one cannot, and is asked all the same", x, Checks.FUSED, 0, 0, 0, 0, 0, 0);
        CHECKS.due("local(true, 0)", x.local(Checks.FUSED, 0), 0);
        CHECKS.dueThrow("stack(true, 0)", NoSuchElementException.class, () -> x.stack(Checks.FUSED, 0));
        CHECKS.dueThrow("out(true, 0)", NoSuchElementException.class, () -> x.out(Checks.FUSED, 0));
    }

    private static void values() {
        CHECKS.sentence("The value at k on its stack (from 0, the lowest).");
        StringBuilder words = new StringBuilder();
        for (int k = 0; k < 40; k++) {
            words.append('P').append(k * 7 - 3).append(' ');
        }
        CountedEngine x = Checks.ranOf(words + "H");
        for (boolean fused : Checks.BOTH) {
            for (int k = 0; k < 40; k++) {
                CHECKS.due("stack(" + fused + ", " + k + ")", x.stack(fused, k), k * 7 - 3);
            }
        }
        CountedEngine ends = Checks.ranOf("P-2147483648 P2147483647 H");
        for (boolean fused : Checks.BOTH) {
            CHECKS.dueStack("the ends of the ints", ends, fused, FAR);
        }
    }

    private static void noSuchValue() {
        CHECKS.sentence("NoSuchElementException when there is none.");
        // What was on the stack is gone, what an instruction that trapped would have taken is there.
        dueTop("P5 P6 P7 V H", 2, 6);
        dueTop("P5 P6 P0 /", 3, 0);
        dueTop("P5 P6 V +", 1, 5);
        dueTop("P5 V H", 0, 0);
        dueTop("P5 V V", 0, 0);
        dueTop(Checks.times(39, "P1") + " P2 H", 40, 2);
        dueTop(Checks.times(39, "P1") + " P2 P3", 40, 2);
    }

    private static void dueTop(String text, int height, int top) {
        CountedEngine x = Checks.ranOf(text);
        for (boolean fused : Checks.BOTH) {
            CHECKS.due(text + ": about(" + fused + ", 1)", x.about(fused, 1), height);
            if (height > 0) {
                CHECKS.due(text + ": stack(" + fused + ", " + (height - 1) + ")", x.stack(fused, height - 1), top);
            }
            for (int k : new int[] {-1, height, height + 1, 40, 41, FAR[0], FAR[1]}) {
                CHECKS.dueThrow(text + ": stack(" + k + ")", NoSuchElementException.class, () -> x.stack(fused, k));
            }
        }
    }

    private static void locals() {
        CHECKS.sentence("Its local k.");
        StringBuilder words = new StringBuilder();
        for (int k = 0; k < 8; k++) {
            words.append('P').append(k * 11 + 1).append(" S").append(k).append(' ');
        }
        CountedEngine x = Checks.ranOf(words + "H");
        for (boolean fused : Checks.BOTH) {
            for (int k = 0; k < 8; k++) {
                CHECKS.due("local(" + fused + ", " + k + ")", x.local(fused, k), k * 11 + 1);
            }
        }
    }

    private static void noSuchLocal() {
        CHECKS.sentence("NoSuchElementException when there is none.");
        for (CountedEngine x : new CountedEngine[] {new CountedEngine(), Checks.ranOf("P1 S0 P2 S7 H")}) {
            for (boolean fused : Checks.BOTH) {
                for (int k : new int[] {-2, -1, 8, 9, FAR[0], FAR[1]}) {
                    CHECKS.dueThrow("local(" + k + ")", NoSuchElementException.class, () -> x.local(fused, k));
                }
            }
        }
    }

    private static void putOut() {
        CHECKS.sentence("The k-th value that it put out.");
        CountedEngine x = Checks.ranOf("P5 O P-2147483648 O P7 D O O H");
        int[] want = {5, Integer.MIN_VALUE, 7, 7};
        for (boolean fused : Checks.BOTH) {
            CHECKS.due("about(" + fused + ", 3)", x.about(fused, 3), 4);
            for (int k = 0; k < want.length; k++) {
                CHECKS.due("out(" + fused + ", " + k + ")", x.out(fused, k), want[k]);
            }
        }
    }

    private static void noSuchOutput() {
        CHECKS.sentence("NoSuchElementException when there is none");
        for (int count : new int[] {0, 1, 3, 20}) {
            CountedEngine x = Checks.ranOf("P5 O ".repeat(count) + "H");
            for (boolean fused : Checks.BOTH) {
                CHECKS.due("about(" + fused + ", 3)", x.about(fused, 3), count);
                for (int k : new int[] {-1, count, count + 1, 59, 60, FAR[0], FAR[1]}) {
                    CHECKS.dueThrow(count + ": out(" + k + ")", NoSuchElementException.class, () -> x.out(fused, k));
                }
            }
        }
    }

    private static void notKept() {
        CHECKS.sentence("or it was not kept");
        // Puts out the same value again and again: the 61st is counted, and not to be had.
        CountedEngine x = Checks.fusedOf("P5 O J0");
        for (boolean fused : Checks.BOTH) {
            x.run(fused, 3 * 60);
            CHECKS.due("about(" + fused + ", 3)", x.about(fused, 3), 60);
            CHECKS.due("out(" + fused + ", 59)", x.out(fused, 59), 5);
            x.run(fused, 3);
            CHECKS.due("about(" + fused + ", 3)", x.about(fused, 3), 61);
            CHECKS.due("out(" + fused + ", 59)", x.out(fused, 59), 5);
            CHECKS.dueThrow("out(60) of 61", NoSuchElementException.class, () -> x.out(fused, 60));
            x.run(fused, 3000);
            CHECKS.due("about(" + fused + ", 3)", x.about(fused, 3), 1061);
            for (int k : new int[] {60, 61, 1060, 1061}) {
                CHECKS.dueThrow("out(" + k + ") of 1061", NoSuchElementException.class, () -> x.out(fused, k));
            }
        }
        x.restart();
        for (boolean fused : Checks.BOTH) {
            CHECKS.dueThrow("restarted: out(0)", NoSuchElementException.class, () -> x.out(fused, 0));
        }
    }
}
