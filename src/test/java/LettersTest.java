/** What each letter does, and its traps (promise 7 by the terms), on both machines. */
public final class LettersTest {
    private static final Checks CHECKS = new Checks();
    private static final int MIN = Integer.MIN_VALUE;
    private static final int MAX = Integer.MAX_VALUE;

    public static void main(String[] args) {
        putting();
        numbers();
        divisions();
        comparing();
        moving();
        jumps();
        calls();
        under();
        over();
        zero();
        lost();
        CHECKS.end();
    }

    private static void leaves(String text, int... want) {
        FusedEngine x = Checks.ranOf(text + " H");
        for (boolean fused : Checks.BOTH) {
            CHECKS.due(text + ": about(" + fused + ", 4)", x.about(fused, 4), 5);
            CHECKS.dueStack(text, x, fused, want);
        }
    }

    /** The place where it trapped, the height then and how many instructions were done before. */
    private static void traps(String text, int trap, int place, int height, int done) {
        FusedEngine x = Checks.ranOf(text);
        for (boolean fused : Checks.BOTH) {
            CHECKS.due(text + ": trap (" + fused + ")", x.about(fused, 4), trap);
            CHECKS.due(text + ": place (" + fused + ")", x.about(fused, 0), place);
            CHECKS.due(text + ": height (" + fused + ")", x.about(fused, 1), height);
            CHECKS.due(text + ": done (" + fused + ")", x.about(fused, 5), done);
            CHECKS.due(text + ": run again (" + fused + ")", x.run(fused, 5), 0);
            CHECKS.due(text + ": trap still (" + fused + ")", x.about(fused, 4), trap);
        }
    }

    private static void putting() {
        leaves("P5", 5);
        leaves("P-2147483648 P2147483647", MIN, MAX);
        leaves("L0 L7", 0, 0);
        leaves("P3 S0 P4 S7 L7 L0 L1", 4, 3, 0);
        leaves("P3 S2 P4 S2 L2", 4);
    }

    private static void numbers() {
        leaves("P7 P3 +", 10);
        leaves("P7 P3 -", 4);
        leaves("P7 P3 *", 21);
        leaves("P3 P7 -", -4);
        leaves("P2147483647 P1 +", MIN);
        leaves("P-2147483648 P1 -", MAX);
        leaves("P65536 P65536 *", 0);
        leaves("P2147483647 P2 *", -2);
        leaves("P9 P7 P3 -", 9, 4);
    }

    private static void divisions() {
        leaves("P7 P2 /", 3);
        leaves("P-7 P2 /", -3);
        leaves("P7 P-2 /", -3);
        leaves("P-7 P-2 /", 3);
        leaves("P0 P5 /", 0);
        leaves("P-2147483648 P-1 /", MIN);
        leaves("P2147483647 P-1 /", -MAX);
    }

    private static void comparing() {
        leaves("P1 P2 <", 1);
        leaves("P2 P1 <", 0);
        leaves("P2 P2 <", 0);
        leaves("P-2147483648 P2147483647 <", 1);
        leaves("P2147483647 P-2147483648 <", 0);
        leaves("P2 P2 =", 1);
        leaves("P2 P3 =", 0);
        leaves("P1000000 P1000000 =", 1);
    }

    private static void moving() {
        leaves("P5 D", 5, 5);
        leaves("P5 P6 D", 5, 6, 6);
        leaves("P5 P6 X", 6, 5);
        leaves("P4 P5 P6 X", 4, 6, 5);
        leaves("P5 P6 V", 5);
        leaves("P5 P6 O", 5);
        FusedEngine x = Checks.ranOf("P5 P6 O O H");
        for (boolean fused : Checks.BOTH) {
            CHECKS.due("out(" + fused + ", 0)", x.out(fused, 0), 6);
            CHECKS.due("out(" + fused + ", 1)", x.out(fused, 1), 5);
        }
    }

    private static void jumps() {
        leaves("J2 P1 P2", 2);
        leaves("P0 Z3 P1 P2", 2);
        leaves("P7 Z3 P1 P2", 1, 2);
        leaves("P-1 Z3 P1 P2", 1, 2);
        leaves("P9 P0 Z4 P1 P2", 9, 2);
        leaves("J3 P7 H J1", 7);
    }

    private static void calls() {
        // Returns come back in the order of the latest first.
        FusedEngine x = Checks.ranOf("C3 P1 H C6 P2 R P3 R");
        for (boolean fused : Checks.BOTH) {
            CHECKS.dueStack("calls", x, fused, 3, 2, 1);
            CHECKS.due("calls: returns", x.about(fused, 2), 0);
            CHECKS.due("calls: place", x.about(fused, 0), 2);
        }
        FusedEngine open = Checks.ranOf("C2 H C4 H H");
        for (boolean fused : Checks.BOTH) {
            CHECKS.due("open calls", open.about(fused, 2), 2);
        }
    }

    private static void under() {
        for (String letter : "S O V D Z".split(" ")) {
            traps(letter, 1, 0, 0, 0);
        }
        for (String letter : "+ - * / < = X".split(" ")) {
            traps(letter, 1, 0, 0, 0);
            traps("P0 " + letter, 1, 1, 1, 1);
        }
        traps("R", 1, 0, 0, 0);
        traps("P1 R", 1, 1, 1, 1);
        traps("C1 R", 1, 1, 0, 2);
    }

    private static void over() {
        String full = Checks.times(40, "P1");
        leaves(full, ones(40));
        traps(full + " P2", 2, 40, 40, 40);
        traps(full + " L2", 2, 40, 40, 40);
        traps(full + " D", 2, 40, 40, 40);
        traps(full + " X + P1 D", 2, 43, 40, 43);
        traps(Checks.times(39, "P1") + " D D", 2, 40, 40, 40);
        // Within rows: the part that can be done is done.
        traps(Checks.times(39, "P1") + " X L L L", 2, 41, 40, 41);
        traps(full + " X P +", 2, 41, 40, 41);
        traps(full + " X P S", 2, 41, 40, 41);
        traps("C0", 2, 0, 0, 10);
        FusedEngine x = Checks.ranOf("C0");
        for (boolean fused : Checks.BOTH) {
            CHECKS.due("ten returns", x.about(fused, 2), 10);
        }
        FusedEngine ten = Checks.fusedOf("C0");
        for (boolean fused : Checks.BOTH) {
            CHECKS.due("ten calls", ten.run(fused, 10), 10);
            CHECKS.due("ten calls go on", ten.about(fused, 4), 0);
            CHECKS.due("the 11th", ten.run(fused, 10), 1);
            CHECKS.due("the 11th traps", ten.about(fused, 4), 2);
        }
        // OVER comes before LOST: ten calls to themselves, then one that leads out.
        traps(calling(10) + " C99", 2, 10, 0, 10);
    }

    private static String calling(int count) {
        StringBuilder words = new StringBuilder();
        for (int k = 1; k <= count; k++) {
            words.append('C').append(k).append(' ');
        }
        return words.toString().trim();
    }

    private static int[] ones(int count) {
        int[] values = new int[count];
        java.util.Arrays.fill(values, 1);
        return values;
    }

    private static void zero() {
        traps("P1 P0 /", 3, 2, 2, 2);
        traps("P0 P0 /", 3, 2, 2, 2);
        traps("P0 /", 1, 1, 1, 1);
        FusedEngine x = Checks.ranOf("P8 P0 /");
        for (boolean fused : Checks.BOTH) {
            CHECKS.dueStack("nothing is taken", x, fused, 8, 0);
        }
    }

    private static void lost() {
        traps("P1", 4, 1, 1, 1);
        traps("J5", 4, 5, 0, 1);
        traps("J1", 4, 1, 0, 1);
        traps("J-1", 4, -1, 0, 1);
        traps("J-2147483648", 4, MIN, 0, 1);
        traps("P0 Z2147483647", 4, MAX, 0, 2);
        traps("C7", 4, 7, 0, 1);
        traps("J2 R C1", 4, 3, 0, 3);
        traps(Checks.times(80, "J80"), 4, 80, 0, 1);
        traps("L P < Z99 H", 4, 99, 0, 4);
        traps("L P1 < Z99", 4, 4, 0, 4);
        traps("L P1 = Z99 H", 4, 99, 0, 4);
    }
}
