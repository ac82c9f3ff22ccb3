import java.util.List;

/** The traps: the last that is done and the first that traps, their order, and what they leave. */
public final class TrapsTest {
    private static final Checks CHECKS = new Checks();
    private static final int UNDER = 1;
    private static final int OVER = 2;
    private static final int ZERO = 3;
    private static final int LOST = 4;
    private static final String TEN_CALLS = "C1 C2 C3 C4 C5 C6 C7 C8 C9 C10";

    public static void main(String[] args) {
        fewerValuesThanAreTaken();
        noReturnPlace();
        fortyFirstValue();
        eleventhReturnPlace();
        byZero();
        placesOutside();
        doesNothing();
        lostDoesNothing();
        runIsOver();
        order();
        CHECKS.end();
    }

    /** The place where it trapped, the height then and how many instructions were done before. */
    private static void traps(String text, int trap, int place, int height, int done) {
        CountedEngine x = Checks.ranOf(text);
        for (boolean fused : Checks.BOTH) {
            CHECKS.due(text + ": trap (" + fused + ")", x.about(fused, 4), trap);
            CHECKS.due(text + ": place (" + fused + ")", x.about(fused, 0), place);
            CHECKS.due(text + ": height (" + fused + ")", x.about(fused, 1), height);
            CHECKS.due(text + ": done (" + fused + ")", x.about(fused, 5), done);
        }
    }

    private static void endsWell(String text) {
        CountedEngine x = Checks.ranOf(text);
        for (boolean fused : Checks.BOTH) {
            CHECKS.due(text + ": no trap (" + fused + ")", x.about(fused, 4), 5);
        }
    }

    private static void fewerValuesThanAreTaken() {
        CHECKS.sentence("1 UNDER: the stack has fewer values than are taken (D and X need one and two)");
        for (String letter : "S O V D Z".split(" ")) {
            traps(letter, UNDER, 0, 0, 0);
            // J keeps P from being fused with it.
            traps("P1 V J3 " + letter, UNDER, 3, 0, 3);
            endsWell("P1 J2 " + letter + " H");
        }
        for (String letter : "+ - * / < = X".split(" ")) {
            traps(letter, UNDER, 0, 0, 0);
            traps("P1 J2 " + letter, UNDER, 2, 1, 2);
            traps("P1 P1 V J4 " + letter, UNDER, 4, 1, 4);
            endsWell("P1 P1 J3 " + letter + " H");
        }
        for (String letter : "P L J1 C1 H".split(" ")) {
            endsWell(letter + " H");
        }
    }

    private static void noReturnPlace() {
        CHECKS.sentence("or R finds no return place");
        traps("R", UNDER, 0, 0, 0);
        traps("P1 R", UNDER, 1, 1, 1);
        traps("C1 R", UNDER, 1, 0, 2);
        endsWell("C2 H R");
        traps("C2 R R", UNDER, 1, 0, 2);
    }

    private static void fortyFirstValue() {
        CHECKS.sentence("2 OVER: a 41st value");
        String full = Checks.times(40, "P1");
        endsWell(full + " H");
        for (String letter : "P2 L2 D".split(" ")) {
            traps(full + " " + letter, OVER, 40, 40, 40);
            endsWell(Checks.times(39, "P1") + " " + letter + " H");
            traps(Checks.times(39, "P1") + " J40 " + letter + " " + letter, OVER, 41, 40, 41);
        }
        // In rows: what can be done before it is done.
        traps(full + " J41 P S", OVER, 41, 40, 41);
        traps(full + " J41 P +", OVER, 41, 40, 41);
        traps(Checks.times(39, "P1") + " J40 L P + S", OVER, 41, 40, 41);
        traps(Checks.times(38, "P1") + " J39 L L L", OVER, 41, 40, 41);
        // Rows that take as they go are done at the full stack.
        endsWell(full + " J41 S L H");
        endsWell(full + " J41 V L H");
        endsWell(Checks.times(38, "P1") + " J39 L P + S H");
    }

    private static void eleventhReturnPlace() {
        CHECKS.sentence("or an 11th return place, would be put");
        endsWell(TEN_CALLS + " H");
        traps(TEN_CALLS + " C0", OVER, 10, 0, 10);
        traps("C0", OVER, 0, 0, 10);
        CountedEngine x = Checks.ranOf(TEN_CALLS + " C0");
        for (boolean fused : Checks.BOTH) {
            CHECKS.due("return places", x.about(fused, 2), 10);
        }
    }

    private static void byZero() {
        CHECKS.sentence("3 ZERO: / by 0.");
        for (int a : new int[] {0, 1, -1, Integer.MIN_VALUE, Integer.MAX_VALUE}) {
            traps("P" + a + " P0 /", ZERO, 2, 2, 2);
            endsWell("P" + a + " P1 / H");
            endsWell("P" + a + " P-1 / H");
        }
        // Others may have a 0 for b.
        for (String letter : "+ - * < = X".split(" ")) {
            endsWell("P1 P0 J3 " + letter + " H");
        }
    }

    private static void placesOutside() {
        CHECKS.sentence("4 LOST: a place that the program does not have.");
        for (int n : new int[] {2, 3, 79, 80, 81, -1, -2, Integer.MIN_VALUE, Integer.MAX_VALUE}) {
            traps("J" + n + " H", LOST, n, 0, 1);
            traps("C" + n + " H", LOST, n, 0, 1);
            traps("L0 Z" + n, LOST, n, 0, 2);
        }
        traps("P1", LOST, 1, 1, 1);
        traps(Checks.times(80, "J80"), LOST, 80, 0, 1);
        traps("J2 R C1", LOST, 3, 0, 3);
        endsWell("J1 H");
        endsWell("J2 H J1");
        endsWell("J79 " + Checks.times(78, "V") + " H");
        // At the end of a row: to the place that Z names, or behind it.
        traps("L P < Z99 H", LOST, 99, 0, 4);
        traps("L P1 < Z99", LOST, 4, 0, 4);
        traps("L J2 P1 = Z99 H", LOST, 99, 0, 5);
        CountedEngine empty = Checks.fusedOf("P1");
        empty.clear();
        empty.fuse();
        for (boolean fused : Checks.BOTH) {
            CHECKS.due("empty: run", empty.run(fused, 1), 0);
            CHECKS.dueAbout("empty", empty, fused, 0, 0, 0, 0, LOST, 0);
        }
    }

    private static void doesNothing() {
        CHECKS.sentence("The instruction that traps (for 4, no instruction) does nothing");
        String busy = "P4 S4 P5 S5 P6 O P3 P0 C10 V J11 ";
        // Behind it the stack holds 3 and 0, and a return place is there.
        String[] trapping = {"V V S", "V V Z", "V V D", "V V O", "V X", "V +", "/", "C11"};
        for (String last : trapping) {
            dueNothingDone(busy + last);
        }
        dueNothingDone("P4 S4 P5 O " + Checks.times(40, "P7") + " L4");
    }

    /** The step that traps leaves all as it was, but for how the machine is. */
    private static void dueNothingDone(String text) {
        for (boolean fused : Checks.BOTH) {
            int steps = Checks.fusedOf(text).run(fused, 3000);
            CountedEngine x = Checks.fusedOf(text);
            x.run(fused, steps - 1);
            List<String> before = Answers.ofParts(x, fused);
            CHECKS.due(text + ": goes on before", x.about(fused, 4), 0);
            CHECKS.due(text + ": run", x.run(fused, 1), 1);
            int trap = x.about(fused, 4);
            CHECKS.due(text + ": trapped", trap >= UNDER && trap <= ZERO ? 1 : 0, 1);
            CHECKS.dueSame(text, Answers.ofParts(x, fused), before);
        }
    }

    private static void lostDoesNothing() {
        CHECKS.sentence("The instruction that traps (for 4, no instruction) does nothing");
        CountedEngine x = Checks.fusedOf("P4 S4 P5 O P6 C99");
        for (boolean fused : Checks.BOTH) {
            x.run(fused, fused ? 5 : 6);
            List<String> before = Answers.ofParts(x, fused);
            CHECKS.dueAbout("before", x, fused, 99, 1, 1, 1, 0, 6);
            CHECKS.due("run", x.run(fused, 1), 0);
            CHECKS.due("about(4)", x.about(fused, 4), LOST);
            CHECKS.dueSame("lost", Answers.ofParts(x, fused), before);
        }
    }

    private static void runIsOver() {
        CHECKS.sentence("and the run is over");
        for (String text : new String[] {"P5 O O P1 H", "C0 P1 H", "P5 P0 / P1 H", "P5 J9 P1 H", "P5 + P1 H"}) {
            CountedEngine x = Checks.ranOf(text);
            for (boolean fused : Checks.BOTH) {
                int trap = x.about(fused, 4);
                List<String> before = Answers.ofParts(x, fused);
                CHECKS.due(text + ": trapped", trap >= UNDER && trap <= LOST ? 1 : 0, 1);
                CHECKS.due(text + ": run on", x.run(fused, 3000), 0);
                CHECKS.due(text + ": trap", x.about(fused, 4), trap);
                CHECKS.dueSame(text, Answers.ofParts(x, fused), before);
            }
        }
    }

    private static void order() {
        CHECKS.sentence("What is wrong is looked for in this order.");
        // UNDER before ZERO: a 0 is there, but no a below it.
        traps("P0 /", UNDER, 1, 1, 1);
        // UNDER, OVER and ZERO before LOST, which only the next place would be.
        traps("Z99", UNDER, 0, 0, 0);
        traps("R", UNDER, 0, 0, 0);
        traps(TEN_CALLS + " C99", OVER, 10, 0, 10);
        traps(Checks.times(40, "P1") + " P1", OVER, 40, 40, 40);
        traps("P1 P0 /", ZERO, 2, 2, 2);
    }
}
