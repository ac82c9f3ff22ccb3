/** Targets, rows, how they are fused, and what a fused instruction does. */
public final class RowsTest {
    private static final Checks CHECKS = new Checks();
    private static final int ALONE = -1;
    private static final int WITHIN = -2;

    public static void main(String[] args) {
        targetsOfJumps();
        targetsOutside();
        targetsBehindC();
        noTargets();
        everyRow();
        everyFewLetters();
        otherPlacesNoTarget();
        firstPlaceMayBeTarget();
        mostInstructions();
        goesOnBehindIt();
        staysAlone();
        atTheEnd();
        everyRowAtEveryHeight();
        rowsThatJump();
        CHECKS.end();
    }

    private static void dueTargets(String text, int... want) {
        CountedEngine x = Checks.fusedOf(text);
        for (int place = 0; place < want.length; place++) {
            CHECKS.due(text + ": look(" + place + ", 3)", x.look(place, 3), want[place]);
        }
    }

    private static void dueRows(String text, int count, int... want) {
        CountedEngine x = Checks.engineOf(text);
        CHECKS.due(text + ": fuse()", x.fuse(), count);
        for (int place = 0; place < want.length; place++) {
            CHECKS.due(text + ": look(" + place + ", 2)", x.look(place, 2), want[place]);
        }
    }

    // Z leads to place 99, so that it makes no target in the program.
    private static String wordsOf(String row) {
        StringBuilder words = new StringBuilder();
        for (char letter : row.toCharArray()) {
            words.append(letter).append(letter == 'Z' ? "99 " : " ");
        }
        return words.toString().trim();
    }

    private static void targetsOfJumps() {
        CHECKS.sentence("TARGETS are the places to which J, Z and C lead");
        for (String letter : "J Z".split(" ")) {
            dueTargets(letter + "0 H H", 1, 0, 0);
            dueTargets(letter + "1 H H", 0, 1, 0);
            dueTargets("H " + letter + "2 H", 0, 0, 1);
            dueTargets("H H " + letter + "2", 0, 0, 1);
            dueTargets("H H " + letter + "0", 1, 0, 0);
        }
        dueTargets("C0 H H", 1, 1, 0);
        dueTargets("C2 H H", 0, 1, 1);
        dueTargets("H H C2", 0, 0, 1);
        // Whether they are ever reached does not matter.
        dueTargets("H J4 Z6 C8 P4 P-1 P3 P2 R", 0, 0, 0, 0, 1, 0, 1, 0, 1);
        CountedEngine full = Checks.fusedOf("J79 " + Checks.times(78, "H") + " Z0");
        CHECKS.due("full: look(79, 3)", full.look(79, 3), 1);
        CHECKS.due("full: look(0, 3)", full.look(0, 3), 1);
        CHECKS.due("full: look(78, 3)", full.look(78, 3), 0);
    }

    private static void targetsOutside() {
        CHECKS.sentence("TARGETS are the places to which J, Z and C lead");
        for (String letter : "J Z".split(" ")) {
            for (int n : new int[] {2, 79, 80, 81, -1, -2, Integer.MIN_VALUE, Integer.MAX_VALUE}) {
                dueTargets(letter + n + " H", 0, 0);
            }
        }
        dueTargets("C2 H", 0, 1);
        dueTargets("C-1 H", 0, 1);
        dueTargets("C-2147483648 H C2147483647", 0, 1, 0);
        // The place that comes later is a target as soon as it is there.
        CountedEngine x = Checks.fusedOf("J2 H");
        x.add('P', 1);
        x.add('S', 1);
        CHECKS.due("not fused: look(2, 3)", x.look(2, 3), 1);
        x.fuse();
        CHECKS.due("fused: look(2, 3)", x.look(2, 3), 1);
        CHECKS.due("fused: look(3, 3)", x.look(3, 3), 0);
    }

    private static void targetsBehindC() {
        CHECKS.sentence("and those behind a C");
        dueTargets("C99 P1 C0 P2 P3", 1, 1, 0, 1, 0);
        dueTargets("C99 C99 C99 H", 0, 1, 1, 1);
        dueRows("L C99 L P + S", 3, ALONE, ALONE, 14, WITHIN, WITHIN, WITHIN);
        // C at the last place: the place behind it is not there.
        dueTargets("H H C99", 0, 0, 0);
        CountedEngine x = Checks.engineOf(Checks.times(79, "H") + " C5");
        CHECKS.due("80 with C: fuse()", x.fuse(), 80);
        CHECKS.due("80 with C: look(5, 3)", x.look(5, 3), 1);
        CHECKS.due("80 with C: look(79, 3)", x.look(79, 3), 0);
        CHECKS.due("80 with C: look(0, 3)", x.look(0, 3), 0);
    }

    private static void noTargets() {
        CHECKS.sentence("TARGETS are the places to which J, Z and C lead, and those behind a C.");
        // The N of other letters leads nowhere, and no other letter makes a target behind it.
        dueTargets("P2 L2 S2 +2 -2 *2 /2 <2 =2 D2 X2 O2 V2 R2 H2", 0, 0, 0, 0, 0, 0, 0, 0, 0, 0, 0, 0, 0, 0, 0);
        dueTargets("J99 H Z99 H R H", 0, 0, 0, 0, 0, 0);
        // A target that a change takes away is none.
        CountedEngine x = Checks.fusedOf("C2 P1 S1 L P + S");
        x.change(0, 'J', 4);
        x.fuse();
        int[] want = {0, 0, 0, 0, 1, 0, 0};
        for (int place = 0; place < want.length; place++) {
            CHECKS.due("changed: look(" + place + ", 3)", x.look(place, 3), want[place]);
        }
        CHECKS.due("changed: look(1, 2)", x.look(1, 2), 10);
    }

    private static void everyRow() {
        CHECKS.sentence("ROWS to be fused, by number, with the letters of their instructions");
        for (int row = 0; row < Checks.ROWS.length; row++) {
            int length = Checks.ROWS[row].length();
            int[] want = new int[length + 2];
            java.util.Arrays.fill(want, WITHIN);
            want[0] = ALONE;
            want[1] = row;
            want[length + 1] = ALONE;
            dueRows("R " + wordsOf(Checks.ROWS[row]) + " R", 3, want);
        }
    }

    /** The row of most instructions that a text begins with. */
    private static int rowOf(String letters) {
        int best = ALONE;
        for (int row = 0; row < Checks.ROWS.length; row++) {
            boolean longer = best == ALONE || Checks.ROWS[row].length() > Checks.ROWS[best].length();
            if (longer && letters.startsWith(Checks.ROWS[row])) {
                best = row;
            }
        }
        return best;
    }

    private static void everyFewLetters() {
        CHECKS.sentence("ROWS to be fused, by number, with the letters of their instructions");
        int kinds = Checks.LETTERS.length();
        for (int length = 1, count = kinds; length <= 4; length++, count *= kinds) {
            for (int number = 0; number < count; number++) {
                StringBuilder letters = new StringBuilder();
                for (int k = 0, rest = number; k < length; k++, rest /= kinds) {
                    letters.append(Checks.LETTERS.charAt(rest % kinds));
                }
                String program = letters.toString();
                CHECKS.due(program + ": look(0, 2)", fusedWithoutTargets(program).look(0, 2), rowOf(program));
            }
        }
    }

    private static CountedEngine fusedWithoutTargets(String letters) {
        CountedEngine x = new CountedEngine();
        for (char letter : letters.toCharArray()) {
            x.add(letter, "JZC".indexOf(letter) >= 0 ? 99 : 0);
        }
        x.fuse();
        return x;
    }

    private static void otherPlacesNoTarget() {
        CHECKS.sentence("a row that is there from this place on, none of its other places being a target");
        for (int row = 0; row < Checks.ROWS.length; row++) {
            String words = wordsOf(Checks.ROWS[row]);
            for (int k = 1; k < Checks.ROWS[row].length(); k++) {
                CountedEngine x = Checks.fusedOf(words + " J" + k);
                CHECKS.due(words + " J" + k, x.look(0, 2), rowOf(Checks.ROWS[row].substring(0, k)));
                CHECKS.due(words + " J" + k + ": the target begins something", x.look(k, 2) == WITHIN ? 1 : 0, 0);
            }
            // The place behind the row may be one.
            int behind = Checks.ROWS[row].length();
            CHECKS.due(words + " J" + behind, Checks.fusedOf(words + " J" + behind).look(0, 2), row);
        }
        dueRows("L P + S J3", 3, 12, WITHIN, WITHIN, ALONE, ALONE);
        dueRows("L P + S J2", 4, 1, WITHIN, ALONE, ALONE, ALONE);
        dueRows("L P + S J1", 4, ALONE, 2, WITHIN, ALONE, ALONE);
        dueRows("L P < Z99 J3", 4, 1, WITHIN, ALONE, ALONE, ALONE);
        dueRows("L P < Z99 J2", 3, 1, WITHIN, 7, WITHIN, ALONE);
        dueRows("L L + J2", 3, 0, WITHIN, ALONE, ALONE);
        dueRows("L L + J1", 3, ALONE, 4, WITHIN, ALONE);
        dueRows("P = Z99 J2", 4, ALONE, ALONE, ALONE, ALONE);
        dueRows("P = Z99 J1", 3, ALONE, 8, WITHIN, ALONE);
        // A row whose own Z leads into it.
        dueRows("L P < Z3", 3, 1, WITHIN, ALONE, ALONE);
        dueRows("L P < Z2", 2, 1, WITHIN, 7, WITHIN);
        dueRows("L P < Z0", 1, 13, WITHIN, WITHIN, WITHIN);
        dueRows("= Z1", 2, ALONE, ALONE);
    }

    private static void firstPlaceMayBeTarget() {
        CHECKS.sentence("a row that is there from this place on, none of its other places being a target");
        for (int row = 0; row < Checks.ROWS.length; row++) {
            String words = wordsOf(Checks.ROWS[row]);
            CHECKS.due(words + " J0", Checks.fusedOf(words + " J0").look(0, 2), row);
        }
    }

    private static void mostInstructions() {
        CHECKS.sentence("the one of most instructions, of these the one of the least number");
        dueRows("L P + S", 1, 14, WITHIN, WITHIN, WITHIN);
        dueRows("L P < Z99", 1, 13, WITHIN, WITHIN, WITHIN);
        dueRows("L P + V", 2, 12, WITHIN, WITHIN, ALONE);
        dueRows("L L + S", 2, 11, WITHIN, WITHIN, ALONE);
        dueRows("L P < V", 3, 1, WITHIN, ALONE, ALONE);
        dueRows("L L L L", 2, 15, WITHIN, WITHIN, ALONE);
        dueRows("L L P +", 2, 0, WITHIN, 2, WITHIN);
    }

    private static void goesOnBehindIt() {
        CHECKS.sentence("it goes on behind it");
        dueRows("L L L +", 2, 15, WITHIN, WITHIN, ALONE);
        dueRows("L L L L L", 2, 15, WITHIN, WITHIN, 0, WITHIN);
        dueRows("L L P + S", 3, 0, WITHIN, 2, WITHIN, ALONE);
        dueRows("P S L P + S", 2, 10, WITHIN, 14, WITHIN, WITHIN, WITHIN);
        dueRows("D D X D *", 3, ALONE, 5, WITHIN, 6, WITHIN);
        dueRows("V L + D O", 3, 18, WITHIN, ALONE, 19, WITHIN);
        dueRows("S L -", 2, 9, WITHIN, ALONE);
        dueRows("P P + P P -", 4, ALONE, 2, WITHIN, ALONE, 3, WITHIN);
    }

    private static void staysAlone() {
        CHECKS.sentence("Where there is none the instruction stays as it is, alone.");
        dueRows("P", 1, ALONE);
        dueRows("P P", 2, ALONE, ALONE);
        dueRows("X D", 2, ALONE, ALONE);
        dueRows("P * L * L / D D P < D +", 12, ALONE, ALONE, ALONE, ALONE, ALONE, ALONE, ALONE, ALONE, ALONE, ALONE);
        CountedEngine x = Checks.fusedOf("P5 S6 P7");
        int[] letters = {'P', 'S', 'P'};
        for (int place = 0; place < 3; place++) {
            CHECKS.due("fused: look(" + place + ", 0)", x.look(place, 0), letters[place]);
            CHECKS.due("fused: look(" + place + ", 1)", x.look(place, 1), place + 5);
        }
    }

    private static void atTheEnd() {
        CHECKS.sentence("a row that is there from this place on");
        dueRows("L P +", 1, 12, WITHIN, WITHIN);
        dueRows("L P <", 2, 1, WITHIN, ALONE);
        dueRows("L", 1, ALONE);
        // What stood behind the end before is not there any more.
        CountedEngine x = Checks.fusedOf("L P + S");
        x.clear();
        Checks.addAll(x, "L P");
        CHECKS.due("after clear: fuse()", x.fuse(), 1);
        CHECKS.due("after clear: look(0, 2)", x.look(0, 2), 1);
        // The row ends with the last place of the full program, or would need one more.
        CountedEngine whole = Checks.engineOf(Checks.times(38, "J99 X") + " L P + S");
        CHECKS.due("whole: fuse()", whole.fuse(), 77);
        CHECKS.due("whole: look(76, 2)", whole.look(76, 2), 14);
        CHECKS.due("whole: look(79, 2)", whole.look(79, 2), WITHIN);
        CountedEngine cut = Checks.engineOf(Checks.times(38, "J99 X") + " X L P +");
        CHECKS.due("cut: fuse()", cut.fuse(), 78);
        CHECKS.due("cut: look(77, 2)", cut.look(77, 2), 12);
        CountedEngine same = Checks.engineOf(Checks.times(80, "L"));
        CHECKS.due("80 L: fuse()", same.fuse(), 27);
        CHECKS.due("80 L: look(75, 2)", same.look(75, 2), 15);
        CHECKS.due("80 L: look(78, 2)", same.look(78, 2), 0);
    }

    /** From each height of the stack: it does what the plain machine does, up to a trap or its end. */
    private static void everyRowAtEveryHeight() {
        CHECKS.sentence("A fused instruction does what its row does, one after the other, until one of them traps");
        for (int row = 0; row < Checks.ROWS.length; row++) {
            for (int height = 0; height <= 40; height++) {
                oneRowAt(row, height);
            }
        }
    }

    private static void oneRowAt(int row, int height) {
        int length = Checks.ROWS[row].length();
        String values = height == 0 ? "" : Checks.times(height, "P3") + " ";
        // The J makes the row's first place a target, so that no P before it is fused with it.
        String text = values + wordsOf(Checks.ROWS[row]) + " J" + height;
        CountedEngine x = Checks.fusedOf(text);
        CHECKS.due(text + ": look(" + height + ", 2)", x.look(height, 2), row);
        x.run(Checks.FUSED, height);
        CHECKS.dueAbout(text + ": before", x, Checks.FUSED, height, height, 0, 0, 0, height);
        CHECKS.due(text + ": run(true, 1)", x.run(Checks.FUSED, 1), 1);
        int plainSteps = x.run(Checks.PLAIN, height + length);
        int failing = trappingLetter(Checks.ROWS[row], height);
        CHECKS.due(text + ": run(false)", plainSteps, failing == length ? height + length : height + failing + 1);
        CHECKS.due(text + ": done", x.about(Checks.FUSED, 5), height + failing);
        if (failing < length) {
            CHECKS.due(text + ": stands at the one that trapped", x.about(Checks.FUSED, 0), height + failing);
        }
        for (int what = 0; what < 6; what++) {
            CHECKS.due(text + ": about " + what, x.about(Checks.FUSED, what), x.about(Checks.PLAIN, what));
        }
        for (int k = 0; k < x.about(Checks.PLAIN, 1); k++) {
            CHECKS.due(text + ": stack " + k, x.stack(Checks.FUSED, k), x.stack(Checks.PLAIN, k));
        }
    }

    /** Which of a row's letters traps first when the stack has so many values; its length if none does. */
    private static int trappingLetter(String row, int height) {
        int values = height;
        for (int k = 0; k < row.length(); k++) {
            char letter = row.charAt(k);
            boolean two = "+-*<=X".indexOf(letter) >= 0;
            boolean one = "SDOVZ".indexOf(letter) >= 0;
            int change = "PLD".indexOf(letter) >= 0 ? 1 : letter == 'X' ? 0 : -1;
            if (values < (two ? 2 : one ? 1 : 0) || values + change > 40) {
                return k;
            }
            values += change;
        }
        return row.length();
    }

    private static void rowsThatJump() {
        CHECKS.sentence("A fused machine stands at the place of its row's first instruction");
        // <Z, =Z, P=Z and LP<Z: once with the jump, once without.
        dueStand("P1 P2 J3 < Z7 P9 S0 H", 3, 5, 0);
        dueStand("P2 P1 J3 < Z7 P9 S0 H", 3, 7, 0);
        dueStand("P2 P2 J3 = Z7 P9 S0 H", 3, 5, 0);
        dueStand("P2 P1 J3 = Z7 P9 S0 H", 3, 7, 0);
        dueStand("P2 J2 P2 = Z7 P9 S0 H", 2, 5, 0);
        dueStand("P2 J2 P1 = Z7 P9 S0 H", 2, 7, 0);
        dueStand("L0 P1 < Z6 P9 S0 H", 0, 4, 0);
        dueStand("L0 P0 < Z6 P9 S0 H", 0, 6, 0);
        // Back to its own first place, and to places that are not there.
        dueStand("L0 P0 < Z0 H", 0, 0, 0);
        dueStand("L0 P0 < Z-1 H", 0, -1, 0);
        dueStand("L0 P0 < Z2147483647 H", 0, Integer.MAX_VALUE, 0);
        dueStand("P1 P2 J3 < Z99", 3, 5, 0);
    }

    /** The row's step is the one after the steps given; where the machine stands then, and its height. */
    private static void dueStand(String text, int steps, int place, int height) {
        CountedEngine x = Checks.fusedOf(text);
        CHECKS.due(text + ": run", x.run(Checks.FUSED, steps + 1), steps + 1);
        CHECKS.due(text + ": place", x.about(Checks.FUSED, 0), place);
        CHECKS.due(text + ": height", x.about(Checks.FUSED, 1), height);
        CHECKS.due(text + ": goes on", x.about(Checks.FUSED, 4), 0);
    }
}
