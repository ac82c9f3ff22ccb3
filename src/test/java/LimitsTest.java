import java.util.NoSuchElementException;

/** How much a program and a machine may hold, on both sides of each limit, and how they begin. */
public final class LimitsTest {
    private static final Checks CHECKS = new Checks();
    private static final int[] FAR = {Integer.MIN_VALUE, Integer.MAX_VALUE};
    // Puts out 0, 1, 2, .. : seven instructions a round, in four steps of the fused machine.
    private static final String COUNTING = "L0 O L0 P1 + S0 J0";

    public static void main(String[] args) {
        callsOfAnObject();
        instructions();
        fullProgramRuns();
        fullProgramIsWrittenAnew();
        numbersOfInstructions();
        values();
        fullStackIsUsed();
        locals();
        returnPlaces();
        returnPlacesComeFree();
        outputs();
        beginning();
        CHECKS.end();
    }

    private static void callsOfAnObject() {
        CHECKS.sentence("An object is used for at most 512 calls after it has been made");
        CountedEngine x = Checks.fusedOf(COUNTING);
        int[] steps = new int[2];
        while (x.calls() < CountedEngine.MOST_CALLS - 6) {
            boolean fused = x.calls() % 2 == 0;
            CHECKS.due("run(" + fused + ", 3000)", x.run(fused, 3000), 3000);
            steps[fused ? 1 : 0] += 3000;
        }
        CHECKS.due("about(false, 5)", x.about(Checks.PLAIN, 5), steps[0]);
        CHECKS.due("about(true, 5)", x.about(Checks.FUSED, 5), steps[1] / 4 * 7);
        CHECKS.due("about(false, 3)", x.about(Checks.PLAIN, 3), (steps[0] + 5) / 7);
        CHECKS.due("about(true, 3)", x.about(Checks.FUSED, 3), steps[1] / 4);
        CHECKS.due("out(true, 59)", x.out(Checks.FUSED, 59), 59);
        CHECKS.due("add(H, 0), the last call", x.add('H', 0), 7);
        CHECKS.due("calls", x.calls(), CountedEngine.MOST_CALLS);
    }

    private static void instructions() {
        CHECKS.sentence("A PROGRAM is at most 80 instructions at the PLACES 0, 1, ..");
        CountedEngine x = new CountedEngine();
        for (int place = 0; place < 80; place++) {
            int next = place;
            CHECKS.dueThrow("look(" + next + ", 0) before", NoSuchElementException.class, () -> x.look(next, 0));
            CHECKS.due("add(P, " + place + ")", x.add('P', place), place);
            CHECKS.due("look(" + place + ", 1)", x.look(place, 1), place);
        }
        CHECKS.dueThrow("the 81st", IllegalStateException.class, () -> x.add('P', 80));
        CHECKS.dueThrow("look(-1, 0)", NoSuchElementException.class, () -> x.look(-1, 0));
        CHECKS.dueThrow("look(80, 0)", NoSuchElementException.class, () -> x.look(80, 0));
        CHECKS.due("look(0, 1)", x.look(0, 1), 0);
        CHECKS.due("look(79, 1)", x.look(79, 1), 79);
    }

    private static void fullProgramRuns() {
        CHECKS.sentence("A PROGRAM is at most 80 instructions at the PLACES 0, 1, ..");
        CountedEngine last = Checks.ranOf("J79 " + Checks.times(78, "V") + " H");
        CountedEngine behind = Checks.ranOf("J79 " + Checks.times(78, "V") + " P5");
        CountedEngine whole = Checks.ranOf(Checks.times(40, "P1 V"));
        for (boolean fused : Checks.BOTH) {
            CHECKS.dueAbout("the last place", last, fused, 79, 0, 0, 0, 5, 2);
            CHECKS.dueAbout("behind the last place", behind, fused, 80, 1, 0, 0, 4, 2);
            CHECKS.dueAbout("all 80", whole, fused, 80, 0, 0, 0, 4, 80);
        }
    }

    private static void fullProgramIsWrittenAnew() {
        CHECKS.sentence("A PROGRAM is at most 80 instructions at the PLACES 0, 1, ..");
        CountedEngine x = Checks.engineOf(Checks.times(80, "P7"));
        x.change(79, 'S', 7);
        x.change(0, 'H', 1);
        CHECKS.due("changed: look(79, 0)", x.look(79, 0), 'S');
        CHECKS.due("changed: look(0, 0)", x.look(0, 0), 'H');
        CHECKS.due("78 stay, PS is one", x.fuse(), 79);
        CHECKS.dueThrow("still full", IllegalStateException.class, () -> x.add('P', 1));
        x.clear();
        for (int place = 0; place < 80; place++) {
            CHECKS.due("cleared: add", x.add('V', 0), place);
        }
        CHECKS.dueThrow("full again", IllegalStateException.class, () -> x.add('V', 0));
    }

    private static void numbersOfInstructions() {
        CHECKS.sentence("each has a LETTER and an int N");
        for (char letter : Checks.LETTERS.toCharArray()) {
            boolean ofLocals = letter == 'L' || letter == 'S';
            CountedEngine x = new CountedEngine();
            for (int n : ofLocals ? new int[] {0, 7} : FAR) {
                int place = x.add(letter, n);
                CHECKS.due(letter + ": look(" + place + ", 0)", x.look(place, 0), letter);
                CHECKS.due(letter + ": look(" + place + ", 1)", x.look(place, 1), n);
            }
        }
    }

    private static void values() {
        CHECKS.sentence("a STACK of at most 40 ints");
        for (String letter : "P7 L0 D".split(" ")) {
            CountedEngine x = Checks.fusedOf(Checks.times(39, "P7") + " " + letter + " " + letter);
            for (boolean fused : Checks.BOTH) {
                // The second L of LL traps in the middle of one step of the fused machine.
                CHECKS.due(letter + ": run", x.run(fused, 99), fused && letter.equals("L0") ? 40 : 41);
                CHECKS.dueAbout(letter, x, fused, 40, 40, 0, 0, 2, 40);
                CHECKS.due(letter + ": stack(39)", x.stack(fused, 39), letter.equals("L0") ? 0 : 7);
                CHECKS.dueThrow("stack(40)", NoSuchElementException.class, () -> x.stack(fused, 40));
            }
        }
    }

    private static void fullStackIsUsed() {
        CHECKS.sentence("a STACK of at most 40 ints");
        String full = Checks.times(40, "P1");
        for (String letter : "+ - * / < = X O V S Z J41 C41 H".split(" ")) {
            CountedEngine x = Checks.ranOf(full + " " + letter + " H");
            for (boolean fused : Checks.BOTH) {
                CHECKS.due(letter + " is done: about(4)", x.about(fused, 4), 5);
                CHECKS.due(letter + " is done: about(5)", x.about(fused, 5), letter.equals("H") ? 41 : 42);
            }
        }
        // What was taken may be put again.
        CountedEngine x = Checks.ranOf(full + " V P8 P9");
        for (boolean fused : Checks.BOTH) {
            CHECKS.dueAbout("one taken, one put", x, fused, 42, 40, 0, 0, 2, 42);
            CHECKS.due("one taken, one put: stack(39)", x.stack(fused, 39), 8);
        }
    }

    private static void locals() {
        CHECKS.sentence("8 LOCALS");
        for (int k = 0; k < 8; k++) {
            CountedEngine x = Checks.ranOf("P9 S" + k + " L" + k + " H");
            for (boolean fused : Checks.BOTH) {
                CHECKS.dueStack("S and L " + k, x, fused, 9);
                for (int other = 0; other < 8; other++) {
                    CHECKS.due("local(" + fused + ", " + other + ")", x.local(fused, other), other == k ? 9 : 0);
                }
            }
        }
    }

    private static void returnPlaces() {
        CHECKS.sentence("at most 10 RETURN places");
        CountedEngine x = Checks.fusedOf("C0");
        for (boolean fused : Checks.BOTH) {
            for (int k = 1; k <= 10; k++) {
                CHECKS.due("call " + k, x.run(fused, 1), 1);
                CHECKS.dueAbout("call " + k, x, fused, 0, 0, k, 0, 0, k);
            }
            CHECKS.due("the 11th", x.run(fused, 1), 1);
            CHECKS.dueAbout("the 11th", x, fused, 0, 0, 10, 0, 2, 10);
        }
    }

    private static void returnPlacesComeFree() {
        CHECKS.sentence("at most 10 RETURN places");
        // Ten calls, each of the next C; from the tenth on the same R leads back behind each.
        StringBuilder words = new StringBuilder();
        for (int k = 0; k < 10; k++) {
            words.append("C").append(k == 9 ? 20 : 2 * k + 2).append(k == 0 ? " H " : " R ");
        }
        CountedEngine x = Checks.fusedOf(words + "R");
        for (boolean fused : Checks.BOTH) {
            CHECKS.due("down", x.run(fused, 10), 10);
            CHECKS.dueAbout("ten", x, fused, 20, 0, 10, 0, 0, 10);
            for (int k = 9; k >= 0; k--) {
                CHECKS.due("back", x.run(fused, 1), 1);
                CHECKS.dueAbout("back", x, fused, 2 * k + 1, 0, k, 0, 0, 20 - k);
            }
            CHECKS.due("H", x.run(fused, 9), 1);
        }
        // Ten, one taken away, one more: the one after that is the 11th.
        CountedEngine y = Checks.ranOf("C1 C2 C3 C4 C5 C6 C7 C8 C9 C12 C11 C12 R H");
        for (boolean fused : Checks.BOTH) {
            CHECKS.dueAbout("one free", y, fused, 11, 0, 10, 0, 2, 12);
        }
    }

    private static void outputs() {
        CHECKS.sentence("an OUTPUT (the first 60 ints of it are kept)");
        CountedEngine x = Checks.fusedOf(COUNTING);
        for (boolean fused : Checks.BOTH) {
            int round = fused ? 4 : 7;
            x.run(fused, 59 * round);
            CHECKS.dueAbout("59", x, fused, 0, 0, 0, 59, 0, 59 * 7);
            CHECKS.due("out(58) of 59", x.out(fused, 58), 58);
            CHECKS.dueThrow("out(59) of 59", NoSuchElementException.class, () -> x.out(fused, 59));
            x.run(fused, round);
            CHECKS.dueAbout("60", x, fused, 0, 0, 0, 60, 0, 60 * 7);
            CHECKS.due("out(59) of 60", x.out(fused, 59), 59);
            CHECKS.dueThrow("out(60) of 60", NoSuchElementException.class, () -> x.out(fused, 60));
            x.run(fused, round);
            CHECKS.dueAbout("61, which is no trap", x, fused, 0, 0, 0, 61, 0, 61 * 7);
            CHECKS.dueThrow("out(60) of 61", NoSuchElementException.class, () -> x.out(fused, 60));
            x.run(fused, 2 * round);
            for (int k = 0; k < 60; k++) {
                CHECKS.due("out(" + fused + ", " + k + ") of 63", x.out(fused, k), k);
            }
        }
    }

    private static void beginning() {
        CHECKS.sentence("it begins with an empty stack, locals 0, no return places, at place 0");
        CHECKS.dueBeginning("new", new CountedEngine());
        // Every part holds something, and begins again as if it had not.
        CountedEngine x = Checks.ranOf("P1 S0 P2 S1 P3 S2 P4 S3 P5 S4 P6 S5 P7 S6 P8 S7 P5 D O C17");
        for (boolean fused : Checks.BOTH) {
            CHECKS.dueAbout("busy", x, fused, 19, 1, 10, 11, 2, 49);
            CHECKS.due("busy: local(7)", x.local(fused, 7), 8);
        }
        x.restart();
        CHECKS.dueBeginning("restarted", x);
        for (boolean fused : Checks.BOTH) {
            CHECKS.dueThrow("restarted: stack(0)", NoSuchElementException.class, () -> x.stack(fused, 0));
            CHECKS.dueThrow("restarted: out(0)", NoSuchElementException.class, () -> x.out(fused, 0));
        }
    }
}
