/** Promise 7 (run), and what a step is. */
public final class RunTest {
    private static final Checks CHECKS = new Checks();

    public static void main(String[] args) {
        atMostSoMany();
        none();
        above3000();
        overAt3000();
        trapCounts();
        endCounts();
        lostDoesNotCount();
        lostIsFoundByAStep();
        onceOver();
        needsFusing();
        stepsOfThePlainOne();
        stepsOfTheFusedOne();
        trapWithinRow();
        machinesAreApart();
        CHECKS.end();
    }

    private static void atMostSoMany() {
        CHECKS.sentence("The plain (fused false) or the fused machine does at most n steps");
        CountedEngine x = Checks.fusedOf("P1 P2 P3 H");
        for (boolean fused : Checks.BOTH) {
            CHECKS.due("run(" + fused + ", 1)", x.run(fused, 1), 1);
            CHECKS.dueAbout("one step", x, fused, 1, 1, 0, 0, 0, 1);
            CHECKS.due("run(" + fused + ", 2)", x.run(fused, 2), 2);
            CHECKS.dueAbout("three steps", x, fused, 3, 3, 0, 0, 0, 3);
            CHECKS.due("run(" + fused + ", 2), but there is one", x.run(fused, 2), 1);
            CHECKS.dueAbout("four steps", x, fused, 3, 3, 0, 0, 5, 4);
        }
    }

    private static void none() {
        CHECKS.sentence("does at most n steps");
        CountedEngine x = Checks.fusedOf("J0");
        CountedEngine outside = Checks.fusedOf("J9");
        for (boolean fused : Checks.BOTH) {
            outside.run(fused, 1);
            for (int n : new int[] {0, -1, -3000, -3001, Integer.MIN_VALUE}) {
                CHECKS.due("run(" + fused + ", " + n + ")", x.run(fused, n), 0);
                CHECKS.dueAbout("no step", x, fused, 0, 0, 0, 0, 0, 0);
                CHECKS.due("outside: run(" + fused + ", " + n + ")", outside.run(fused, n), 0);
                CHECKS.dueAbout("outside, no step", outside, fused, 9, 0, 0, 0, 0, 1);
            }
        }
    }

    private static void above3000() {
        CHECKS.sentence("(above 3000 counts as 3000)");
        CountedEngine x = Checks.fusedOf("J0");
        for (boolean fused : Checks.BOTH) {
            int all = 0;
            for (int n : new int[] {2999, 3000, 3001, 6000, 65537, Integer.MAX_VALUE}) {
                int want = n == 2999 ? 2999 : 3000;
                all += want;
                CHECKS.due("run(" + fused + ", " + n + ")", x.run(fused, n), want);
                CHECKS.dueAbout("after " + n, x, fused, 0, 0, 0, 0, 0, all);
            }
        }
        // Whole fused ones are the steps that are counted.
        CountedEngine y = Checks.fusedOf("L0 P1 + S0 J0");
        CHECKS.due("run(true, 9999)", y.run(Checks.FUSED, 9999), 3000);
        CHECKS.due("about(true, 5)", y.about(Checks.FUSED, 5), 1500 * 5);
        CHECKS.due("local(true, 0)", y.local(Checks.FUSED, 0), 1500);
    }

    private static void overAt3000() {
        CHECKS.sentence("(above 3000 counts as 3000)");
        for (boolean fused : Checks.BOTH) {
            // What is over in the 3000th step is over, what would be in the one after is not yet.
            dueFirstRun(fused, 2999, "H", 3000, 5);
            dueFirstRun(fused, 3000, "H", 3000, 0);
            dueFirstRun(fused, 2999, "R", 3000, 1);
            dueFirstRun(fused, 3000, "R", 3000, 0);
            dueFirstRun(fused, 2998, "J-1", 2999, 4);
            dueFirstRun(fused, 2999, "J-1", 3000, 0);
        }
    }

    /** A program that does so many steps before its last instruction: what its first run answers and leaves. */
    private static void dueFirstRun(boolean fused, int before, String last, int steps, int state) {
        // Local 0 is counted down to 0 in rounds of 7 plain or 5 fused steps; then some P.
        int rounds = fused ? before / 5 : (before - 1) / 7;
        int rest = fused ? before % 5 : (before - 1) % 7;
        String text = "P" + rounds + " S0 L0 P-1 + D S0 Z9 J2 " + "P1 ".repeat(rest) + last;
        CountedEngine x = Checks.fusedOf(text);
        CHECKS.due(text + ": run(" + fused + ", 3001)", x.run(fused, 3001), steps);
        CHECKS.due(text + ": about(" + fused + ", 4)", x.about(fused, 4), state);
        if (state == 0) {
            CHECKS.due(text + ": the next run", x.run(fused, 3001), last.equals("J-1") ? 0 : 1);
            CHECKS.due(text + ": is over", x.about(fused, 4) > 0 ? 1 : 0, 1);
        }
    }

    private static void trapCounts() {
        CHECKS.sentence("Answers how many it did (the one that trapped or ended counts; LOST does not).");
        CountedEngine first = Checks.fusedOf("V");
        CountedEngine later = Checks.fusedOf("P1 O O P1");
        CountedEngine over = Checks.fusedOf("C0");
        CountedEngine zero = Checks.fusedOf("P1 P0 /");
        for (boolean fused : Checks.BOTH) {
            CHECKS.due("the first one traps", first.run(fused, 5), 1);
            CHECKS.dueAbout("the first one traps", first, fused, 0, 0, 0, 0, 1, 0);
            CHECKS.due("the third one traps", later.run(fused, 5), 3);
            CHECKS.dueAbout("the third one traps", later, fused, 2, 0, 0, 1, 1, 2);
            CHECKS.due("OVER", over.run(fused, 50), 11);
            CHECKS.due("ZERO", zero.run(fused, 3), 3);
        }
    }

    private static void endCounts() {
        CHECKS.sentence("Answers how many it did (the one that trapped or ended counts; LOST does not).");
        CountedEngine x = Checks.fusedOf("H");
        CountedEngine y = Checks.fusedOf("P1 H");
        for (boolean fused : Checks.BOTH) {
            CHECKS.due("H alone", x.run(fused, 5), 1);
            CHECKS.dueAbout("H alone", x, fused, 0, 0, 0, 0, 5, 1);
            CHECKS.due("just enough for H", y.run(fused, 2), 2);
            CHECKS.due("just enough for H", y.about(fused, 4), 5);
        }
    }

    private static void lostDoesNotCount() {
        CHECKS.sentence("Answers how many it did (the one that trapped or ended counts; LOST does not).");
        CountedEngine x = Checks.fusedOf("J7");
        CountedEngine behind = Checks.fusedOf("P1 P2");
        CountedEngine empty = new CountedEngine();
        empty.fuse();
        for (boolean fused : Checks.BOTH) {
            CHECKS.due("J7", x.run(fused, 2), 1);
            CHECKS.dueAbout("J7", x, fused, 7, 0, 0, 0, 4, 1);
            CHECKS.due("behind the end", behind.run(fused, 3000), 2);
            CHECKS.dueAbout("behind the end", behind, fused, 2, 2, 0, 0, 4, 2);
            CHECKS.due("empty", empty.run(fused, 3000), 0);
            CHECKS.dueAbout("empty", empty, fused, 0, 0, 0, 0, 4, 0);
        }
    }

    private static void lostIsFoundByAStep() {
        CHECKS.sentence("does at most n steps");
        CountedEngine x = Checks.fusedOf("J7");
        CountedEngine empty = new CountedEngine();
        empty.fuse();
        for (boolean fused : Checks.BOTH) {
            CHECKS.due("one step", x.run(fused, 1), 1);
            CHECKS.dueAbout("stands outside, and goes on", x, fused, 7, 0, 0, 0, 0, 1);
            CHECKS.due("no step", x.run(fused, 0), 0);
            CHECKS.due("no step was due", x.about(fused, 4), 0);
            CHECKS.due("one more", x.run(fused, 1), 0);
            CHECKS.dueAbout("lost", x, fused, 7, 0, 0, 0, 4, 1);
            CHECKS.due("empty: run(0)", empty.run(fused, 0), 0);
            CHECKS.due("empty: goes on", empty.about(fused, 4), 0);
            CHECKS.due("empty: run(1)", empty.run(fused, 1), 0);
            CHECKS.due("empty: lost", empty.about(fused, 4), 4);
        }
    }

    private static void onceOver() {
        CHECKS.sentence("Answers how many it did");
        for (String text : new String[] {"P1 H", "P1 +", "P1 P0 /", "C0", "J9"}) {
            CountedEngine x = Checks.ranOf(text);
            for (boolean fused : Checks.BOTH) {
                int state = x.about(fused, 4);
                int done = x.about(fused, 5);
                for (int n : new int[] {-1, 0, 1, 3000, Integer.MAX_VALUE}) {
                    CHECKS.due(text + ", which is over: run(" + fused + ", " + n + ")", x.run(fused, n), 0);
                }
                CHECKS.due(text + ": about(" + fused + ", 4)", x.about(fused, 4), state);
                CHECKS.due(text + ": about(" + fused + ", 5)", x.about(fused, 5), done);
            }
        }
    }

    private static void needsFusing() {
        CHECKS.sentence("IllegalStateException for the fused one when the program is not fused.");
        CountedEngine x = new CountedEngine();
        for (int n : new int[] {-1, 0, 1, 3000}) {
            CHECKS.dueThrow("new: run(true, " + n + ")", IllegalStateException.class, () -> x.run(Checks.FUSED, n));
        }
        Checks.addAll(x, "P1 H");
        CHECKS.dueThrow("not fused: run(true, 1)", IllegalStateException.class, () -> x.run(Checks.FUSED, 1));
        CHECKS.due("not fused: run(false, 1)", x.run(Checks.PLAIN, 1), 1);
        x.fuse();
        CHECKS.due("fused: run(true, 1)", x.run(Checks.FUSED, 1), 1);
        x.restart();
        CHECKS.due("restarted: run(true, 1)", x.run(Checks.FUSED, 1), 1);
        x.change(0, 'P', 1);
        CHECKS.dueThrow("changed: run(true, 1)", IllegalStateException.class, () -> x.run(Checks.FUSED, 1));
        x.fuse();
        x.add('H', 1);
        CHECKS.dueThrow("added to: run(true, 1)", IllegalStateException.class, () -> x.run(Checks.FUSED, 1));
        x.fuse();
        x.clear();
        CHECKS.dueThrow("cleared: run(true, 1)", IllegalStateException.class, () -> x.run(Checks.FUSED, 1));
        CHECKS.due("cleared: run(false, 1)", x.run(Checks.PLAIN, 1), 0);
    }

    private static void stepsOfThePlainOne() {
        CHECKS.sentence("A STEP of the plain machine: an instruction.");
        // Fused or not makes no difference to it.
        CountedEngine x = Checks.fusedOf("L0 P1 + S0 H");
        for (int k = 1; k <= 4; k++) {
            CHECKS.due("step " + k, x.run(Checks.PLAIN, 1), 1);
            CHECKS.due("place after step " + k, x.about(Checks.PLAIN, 0), k);
            CHECKS.due("done after step " + k, x.about(Checks.PLAIN, 5), k);
        }
    }

    private static void stepsOfTheFusedOne() {
        CHECKS.sentence("Of the fused one: an instruction, or a whole fused one.");
        // Rows: PS, LP+S (a target), LP<Z, J, then H.
        CountedEngine x = Checks.engineOf("P0 S0 L0 P1 + S0 L0 P3 < Z11 J2 H");
        CHECKS.due("fuse()", x.fuse(), 5);
        int[] places = {2, 6, 10, 2, 6, 10, 2, 6, 11, 11};
        int[] done = {2, 6, 10, 11, 15, 19, 20, 24, 28, 29};
        for (int k = 0; k < places.length; k++) {
            CHECKS.due("step " + k, x.run(Checks.FUSED, 1), 1);
            CHECKS.dueAbout("step " + k, x, Checks.FUSED, places[k], 0, 0, 0, k == 9 ? 5 : 0, done[k]);
        }
        CHECKS.due("it is over", x.run(Checks.FUSED, 1), 0);
        CHECKS.due("plain", x.run(Checks.PLAIN, 3000), 29);
        CHECKS.due("local", x.local(Checks.PLAIN, 0), 3);
        CHECKS.due("local", x.local(Checks.FUSED, 0), 3);
    }

    private static void trapWithinRow() {
        CHECKS.sentence("A fused machine stands at the place of its row's first instruction; "
            + "after a trap at the place of the one that trapped.");
        CountedEngine first = Checks.fusedOf("D X");
        CHECKS.due("DX: run(true, 9)", first.run(Checks.FUSED, 9), 1);
        CHECKS.dueAbout("DX", first, Checks.FUSED, 0, 0, 0, 0, 1, 0);
        CountedEngine second = Checks.fusedOf("P5 +");
        CHECKS.due("P+: run(true, 9)", second.run(Checks.FUSED, 9), 1);
        CHECKS.dueAbout("P+", second, Checks.FUSED, 1, 1, 0, 0, 1, 1);
        CHECKS.dueStack("P+", second, Checks.FUSED, 5);
        CHECKS.due("P+: run(false, 9)", second.run(Checks.PLAIN, 9), 2);
        CHECKS.dueAbout("P+", second, Checks.PLAIN, 1, 1, 0, 0, 1, 1);
        CountedEngine high = Checks.fusedOf(Checks.times(39, "P1") + " X X L P + S");
        CHECKS.due("LP+S: run(true, 99)", high.run(Checks.FUSED, 99), 42);
        CHECKS.dueAbout("LP+S", high, Checks.FUSED, 42, 40, 0, 0, 2, 42);
        CountedEngine low = Checks.fusedOf("P1 = Z9");
        CHECKS.due("P=Z: run(true, 99)", low.run(Checks.FUSED, 99), 1);
        CHECKS.dueAbout("P=Z", low, Checks.FUSED, 1, 1, 0, 0, 1, 1);
    }

    private static void machinesAreApart() {
        CHECKS.sentence("The plain (fused false) or the fused machine");
        CountedEngine x = Checks.fusedOf("P1 S0 P2 O C7 H H P3 H");
        x.run(Checks.PLAIN, 99);
        CHECKS.dueAbout("the fused one stays", x, Checks.FUSED, 0, 0, 0, 0, 0, 0);
        CHECKS.due("the fused one stays", x.local(Checks.FUSED, 0), 0);
        x.restart();
        x.run(Checks.FUSED, 99);
        CHECKS.dueAbout("the plain one stays", x, Checks.PLAIN, 0, 0, 0, 0, 0, 0);
        CHECKS.due("the plain one stays", x.local(Checks.PLAIN, 0), 0);
    }
}
