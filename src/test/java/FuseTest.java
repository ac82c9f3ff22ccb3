import java.util.NoSuchElementException;

/** Promises 5 (fuse) and 6 (look), and what the terms say of rows and targets. */
public final class FuseTest {
    private static final Checks CHECKS = new Checks();

    public static void main(String[] args) {
        everyRowAlone();
        everyRowBrokenByTarget();
        longestFirst();
        goesOnBehindIt();
        atTheEnd();
        targets();
        placesBehindC();
        fuseRestarts();
        fuseEmpty();
        wrongLooks();
        lookBeforeFusing();
        CHECKS.end();
    }

    // Z leads to place 99, so that it makes no target in the program.
    private static String wordsOf(String row) {
        StringBuilder words = new StringBuilder();
        for (char letter : row.toCharArray()) {
            words.append(letter).append(letter == 'Z' ? "99 " : " ");
        }
        return words.toString().trim();
    }

    private static void dueRows(String text, int count, int... want) {
        FusedEngine x = Checks.engineOf(text);
        CHECKS.due(text + ": fuse()", x.fuse(), count);
        for (int place = 0; place < want.length; place++) {
            CHECKS.due(text + ": look(" + place + ", 2)", x.look(place, 2), want[place]);
        }
    }

    private static void everyRowAlone() {
        for (int row = 0; row < Checks.ROWS.length; row++) {
            int length = Checks.ROWS[row].length();
            int[] want = new int[length + 2];
            want[0] = -1;
            want[1] = row;
            for (int k = 1; k < length; k++) {
                want[k + 1] = -2;
            }
            want[length + 1] = -1;
            dueRows("R " + wordsOf(Checks.ROWS[row]) + " R", 3, want);
        }
        dueRows("P P", 2, -1, -1);
        dueRows("X D", 2, -1, -1);
        dueRows("P * L * L / D D P < D +", 12, -1, -1, -1, -1, -1, -1, -1, -1, -1, -1, -1, -1);
    }

    private static void everyRowBrokenByTarget() {
        for (int row = 0; row < Checks.ROWS.length; row++) {
            String words = wordsOf(Checks.ROWS[row]);
            FusedEngine first = Checks.fusedOf(words + " J0");
            CHECKS.due(words + ": its first place may be a target", first.look(0, 2), row);
            for (int k = 1; k < Checks.ROWS[row].length(); k++) {
                FusedEngine x = Checks.fusedOf(words + " J" + k);
                if (x.look(0, 2) == row) {
                    CHECKS.fail(words + " is fused over the target " + k);
                }
                CHECKS.due(words + ": a target lies within none", x.look(k, 2) == -2 ? 1 : 0, 0);
            }
        }
    }

    private static void longestFirst() {
        dueRows("L P + S", 1, 14, -2, -2, -2);
        dueRows("L P < Z99", 1, 13, -2, -2, -2);
        dueRows("L P + V", 2, 12, -2, -2, -1);
        dueRows("L L + S", 2, 11, -2, -2, -1);
        dueRows("L P < V", 3, 1, -2, -1, -1);
        dueRows("L P + S J3", 3, 12, -2, -2, -1, -1);
        dueRows("L P + S J2", 4, 1, -2, -1, -1, -1);
        dueRows("L P + S J1", 4, -1, 2, -2, -1, -1);
        dueRows("L P < Z99 J3", 4, 1, -2, -1, -1, -1);
        dueRows("L P < Z99 J2", 3, 1, -2, 7, -2, -1);
        dueRows("L L + J2", 3, 0, -2, -1, -1);
        dueRows("L L + J1", 3, -1, 4, -2, -1);
        dueRows("L L L J2", 3, 0, -2, -1, -1);
        dueRows("P = Z99 J2", 4, -1, -1, -1, -1);
        dueRows("P = Z99 J1", 3, -1, 8, -2, -1);
    }

    private static void goesOnBehindIt() {
        dueRows("L L L +", 2, 15, -2, -2, -1);
        dueRows("L L L L L", 2, 15, -2, -2, 0, -2);
        dueRows("L L P + S", 3, 0, -2, 2, -2, -1);
        dueRows("P S L P + S", 2, 10, -2, 14, -2, -2, -2);
        dueRows("D D X D *", 3, -1, 5, -2, 6, -2);
        dueRows("V L + D O", 3, 18, -2, -1, 19, -2);
        dueRows("S L -", 2, 9, -2, -1);
        dueRows("P P + P P -", 4, -1, 2, -2, -1, 3, -2);
    }

    private static void atTheEnd() {
        dueRows("L P +", 1, 12, -2, -2);
        dueRows("L P <", 2, 1, -2, -1);
        dueRows("L", 1, -1);
        // What stood behind the end before is not there any more.
        FusedEngine x = Checks.fusedOf("L P + S");
        x.clear();
        Checks.addAll(x, "L P");
        CHECKS.due("after clear: fuse()", x.fuse(), 1);
        CHECKS.due("after clear: look(0, 2)", x.look(0, 2), 1);
        String full = Checks.times(38, "J99 X") + " L P + S";
        FusedEngine y = Checks.engineOf(full);
        CHECKS.due("full: fuse()", y.fuse(), 77);
        CHECKS.due("full: look(76, 2)", y.look(76, 2), 14);
        FusedEngine z = Checks.engineOf(Checks.times(80, "L"));
        CHECKS.due("80 L: fuse()", z.fuse(), 27);
        CHECKS.due("80 L: look(78, 2)", z.look(78, 2), 0);
    }

    private static void targets() {
        // Whether they are ever reached does not matter; place 4 is behind a C as well.
        FusedEngine x = Checks.engineOf("H J4 Z6 C8 P4 P-1 P3 P2 R");
        int[] want = {0, 0, 0, 0, 1, 0, 1, 0, 1};
        dueTargets("before fusing", x, want);
        x.fuse();
        dueTargets("fused", x, want);
        FusedEngine outside = Checks.engineOf("J9 Z-1 J80 Z3 J-2147483648 Z2147483647");
        dueTargets("outside", outside, 0, 0, 0, 1, 0, 0);
        CHECKS.due("outside: fuse()", outside.fuse(), 6);
        // The place that comes later is a target as soon as it is there.
        outside.add('H', 0);
        outside.add('H', 0);
        outside.add('H', 0);
        outside.add('P', 0);
        CHECKS.due("later: look(9, 3)", outside.look(9, 3), 1);
        CHECKS.due("later: look(8, 3)", outside.look(8, 3), 0);
        // P 1, L 1 and S 1 lead nowhere.
        dueTargets("no jumps", Checks.engineOf("P1 L1 S1 R1 H1 +1"), 0, 0, 0, 0, 0, 0);
        dueTargets("to itself", Checks.engineOf("J0 Z1 C2"), 1, 1, 1);
    }

    private static void dueTargets(String when, FusedEngine x, int... want) {
        for (int place = 0; place < want.length; place++) {
            CHECKS.due(when + ": look(" + place + ", 3)", x.look(place, 3), want[place]);
        }
    }

    private static void placesBehindC() {
        dueTargets("behind C", Checks.engineOf("C99 P1 C0 P2 P3"), 1, 1, 0, 1, 0);
        dueRows("C99 L P + S", 2, -1, 14, -2, -2, -2);
        // C at the last place: the place behind it is not there.
        FusedEngine x = Checks.engineOf(Checks.times(79, "H") + " C5");
        CHECKS.due("80 with C: fuse()", x.fuse(), 80);
        CHECKS.due("80 with C: look(5, 3)", x.look(5, 3), 1);
        CHECKS.due("80 with C: look(79, 3)", x.look(79, 3), 0);
    }

    private static void fuseRestarts() {
        FusedEngine x = Checks.fusedOf("P5 S1 P6 O C6 H P7 H");
        CHECKS.due("run(false, 99)", x.run(Checks.PLAIN, 99), 7);
        CHECKS.due("run(true, 99)", x.run(Checks.FUSED, 99), 6);
        CHECKS.due("fuse() again", x.fuse(), 7);
        CHECKS.dueBeginning("fused again", x);
        CHECKS.due("fused again: look(0, 2)", x.look(0, 2), 10);
    }

    private static void fuseEmpty() {
        FusedEngine x = new FusedEngine();
        CHECKS.due("empty: fuse()", x.fuse(), 0);
        CHECKS.due("empty: run(true, 1)", x.run(Checks.FUSED, 1), 0);
        CHECKS.due("empty: about(true, 4)", x.about(Checks.FUSED, 4), 4);
    }

    private static void wrongLooks() {
        FusedEngine x = Checks.fusedOf("P5 P6 +");
        for (int place : new int[] {-1, 3, 79, 80, Integer.MIN_VALUE, Integer.MAX_VALUE}) {
            for (int what = -1; what < 5; what++) {
                int one = what;
                CHECKS.dueThrow("look(" + place + ", " + what + ")", NoSuchElementException.class, () -> x.look(place, one));
            }
        }
        for (int what : new int[] {-1, 4, Integer.MIN_VALUE, Integer.MAX_VALUE}) {
            CHECKS.dueThrow("look(0, " + what + ")", NoSuchElementException.class, () -> x.look(0, what));
        }
        CHECKS.due("look(0, 0)", x.look(0, 0), 'P');
        CHECKS.due("look(1, 1)", x.look(1, 1), 6);
        CHECKS.due("look(2, 0)", x.look(2, 0), '+');
        CHECKS.due("look(2, 2)", x.look(2, 2), -2);
    }

    private static void lookBeforeFusing() {
        FusedEngine x = Checks.engineOf("P5 P6 J1");
        CHECKS.dueThrow("not fused: look(0, 2)", NoSuchElementException.class, () -> x.look(0, 2));
        CHECKS.due("not fused: look(0, 0)", x.look(0, 0), 'P');
        CHECKS.due("not fused: look(0, 1)", x.look(0, 1), 5);
        CHECKS.due("not fused: look(0, 3)", x.look(0, 3), 0);
        CHECKS.due("not fused: look(1, 3)", x.look(1, 3), 1);
    }
}
