/** What each letter does, on both machines: ordinary values, and the ends of the ints. */
public final class LettersTest {
    private static final Checks CHECKS = new Checks();
    private static final int MIN = Integer.MIN_VALUE;
    private static final int MAX = Integer.MAX_VALUE;
    // Around 0, around the root of the greatest int, and the ends.
    private static final int[] EDGES = {
        MIN, MIN + 1, -65536, -46341, -2, -1, 0, 1, 2, 46340, 46341, 65536, MAX - 1, MAX,
    };

    public static void main(String[] args) {
        puts();
        locals();
        takesBThenA();
        wraps();
        divides();
        compares();
        everyPairOfEdges();
        putsAgain();
        exchanges();
        putsOut();
        throwsAway();
        goes();
        goesIfZero();
        calls();
        callsFromTheLastPlace();
        returns();
        ends();
        CHECKS.end();
    }

    private static void leaves(String text, int... want) {
        CountedEngine x = Checks.ranOf(text + " H");
        for (boolean fused : Checks.BOTH) {
            CHECKS.due(text + ": about(" + fused + ", 4)", x.about(fused, 4), 5);
            CHECKS.dueStack(text, x, fused, want);
        }
    }

    private static void puts() {
        CHECKS.sentence("P puts N.");
        leaves("P5", 5);
        leaves("P0 P-1", 0, -1);
        leaves("P-2147483648 P2147483647", MIN, MAX);
    }

    private static void locals() {
        CHECKS.sentence("L puts local N; S takes a value into local N (0 .. 7).");
        leaves("L0 L7", 0, 0);
        leaves("P3 S0 P4 S7 L7 L0 L1", 4, 3, 0);
        leaves("P3 S2 P4 S2 L2 L2", 4, 4);
        leaves("P-2147483648 S0 P2147483647 S7 L0 L7", MIN, MAX);
    }

    private static void takesBThenA() {
        CHECKS.sentence("+ - * / < = take b, then a");
        leaves("P7 P3 +", 10);
        leaves("P7 P3 -", 4);
        leaves("P3 P7 -", -4);
        leaves("P7 P3 *", 21);
        leaves("P7 P3 /", 2);
        leaves("P3 P7 /", 0);
        leaves("P7 P3 <", 0);
        leaves("P3 P7 <", 1);
        leaves("P9 P7 P3 -", 9, 4);
    }

    private static void wraps() {
        CHECKS.sentence("put a + b, a - b, a * b (wrapping)");
        leaves("P2147483647 P1 +", MIN);
        leaves("P-2147483648 P-1 +", MAX);
        leaves("P-2147483648 P-2147483648 +", 0);
        leaves("P2147483647 P2147483647 +", -2);
        leaves("P-2147483648 P1 -", MAX);
        leaves("P2147483647 P-1 -", MIN);
        leaves("P0 P-2147483648 -", MIN);
        leaves("P-2147483648 P2147483647 -", 1);
        leaves("P46340 P46340 *", 2147395600);
        leaves("P46341 P46341 *", -2147479015);
        leaves("P65536 P65536 *", 0);
        leaves("P2147483647 P2 *", -2);
        leaves("P2147483647 P2147483647 *", 1);
        leaves("P-2147483648 P-1 *", MIN);
        leaves("P-2147483648 P-2147483648 *", 0);
        // Through the rows LP+, LL+, L+, L- and D* as well.
        leaves("P2147483647 S0 J3 L0 P1 +", MIN);
        leaves("P2147483647 S0 J3 L0 L0 +", -2);
        leaves("P1 P2147483647 S0 J4 L0 +", MIN);
        leaves("P-2 P2147483647 S0 J4 L0 -", MAX);
        leaves("P65536 J2 D *", 0);
    }

    private static void divides() {
        CHECKS.sentence("a / b (toward 0)");
        leaves("P7 P2 /", 3);
        leaves("P-7 P2 /", -3);
        leaves("P7 P-2 /", -3);
        leaves("P-7 P-2 /", 3);
        leaves("P1 P2 /", 0);
        leaves("P-1 P2 /", 0);
        leaves("P1 P-2 /", 0);
        leaves("P0 P5 /", 0);
        leaves("P0 P-5 /", 0);
        leaves("P2147483647 P-1 /", -MAX);
        leaves("P-2147483648 P1 /", MIN);
        leaves("P-2147483648 P2 /", -1073741824);
        leaves("P2147483647 P-2147483648 /", 0);
        leaves("P-2147483648 P2147483647 /", -1);
        // The one quotient that is no int wraps around.
        leaves("P-2147483648 P-1 /", MIN);
    }

    private static void compares() {
        CHECKS.sentence("1 or 0 for a < b, or for a = b");
        leaves("P1 P2 <", 1);
        leaves("P2 P1 <", 0);
        leaves("P2 P2 <", 0);
        leaves("P-2147483648 P2147483647 <", 1);
        leaves("P2147483647 P-2147483648 <", 0);
        leaves("P-2147483648 P-2147483647 <", 1);
        leaves("P2 P2 =", 1);
        leaves("P2 P3 =", 0);
        leaves("P1000000 P1000000 =", 1);
        leaves("P-2147483648 P-2147483648 =", 1);
        leaves("P-2147483648 P2147483647 =", 0);
        leaves("P0 P-2147483648 =", 0);
    }

    private static void everyPairOfEdges() {
        CHECKS.sentence("put a + b, a - b, a * b (wrapping), a / b (toward 0), 1 or 0 for a < b, or for a = b");
        for (int a : EDGES) {
            for (int b : EDGES) {
                String two = "P" + a + " P" + b + " ";
                leaves(two + "+", (int) ((long) a + b));
                leaves(two + "-", (int) ((long) a - b));
                leaves(two + "*", (int) ((long) a * b));
                leaves(two + "<", (long) a - b < 0 ? 1 : 0);
                leaves(two + "=", (long) a - b == 0 ? 1 : 0);
                if (b != 0) {
                    leaves(two + "/", (int) ((long) a / b));
                }
            }
        }
    }

    private static void putsAgain() {
        CHECKS.sentence("D puts the topmost value again.");
        leaves("P5 D", 5, 5);
        leaves("P5 P6 D", 5, 6, 6);
        leaves("P5 D D D", 5, 5, 5, 5);
    }

    private static void exchanges() {
        CHECKS.sentence("X exchanges the two topmost ones.");
        leaves("P5 P6 X", 6, 5);
        leaves("P4 P5 P6 X", 4, 6, 5);
        leaves("P5 P6 X X", 5, 6);
        leaves("P5 D X", 5, 5);
    }

    private static void putsOut() {
        CHECKS.sentence("O takes a value, which is put out.");
        leaves("P5 P6 O", 5);
        leaves("P5 O");
        CountedEngine x = Checks.ranOf("P5 P6 P-2147483648 O O O H");
        for (boolean fused : Checks.BOTH) {
            CHECKS.due("about(" + fused + ", 3)", x.about(fused, 3), 3);
            CHECKS.due("out(" + fused + ", 0)", x.out(fused, 0), MIN);
            CHECKS.due("out(" + fused + ", 1)", x.out(fused, 1), 6);
            CHECKS.due("out(" + fused + ", 2)", x.out(fused, 2), 5);
        }
    }

    private static void throwsAway() {
        CHECKS.sentence("V takes a value (it is gone).");
        leaves("P5 P6 V", 5);
        leaves("P5 V");
        CountedEngine x = Checks.ranOf("P5 V H");
        for (boolean fused : Checks.BOTH) {
            CHECKS.due("it is not put out", x.about(fused, 3), 0);
        }
    }

    private static void goes() {
        CHECKS.sentence("J goes to place N.");
        leaves("J2 P1 P2", 2);
        leaves("J1 P7", 7);
        leaves("J3 P7 H J1", 7);
        CountedEngine self = Checks.fusedOf("P1 J1");
        CountedEngine first = Checks.fusedOf("V J0");
        CountedEngine last = Checks.ranOf("J79 " + Checks.times(78, "P1") + " H");
        for (boolean fused : Checks.BOTH) {
            CHECKS.due("to itself", self.run(fused, 3000), 3000);
            CHECKS.dueAbout("to itself", self, fused, 1, 1, 0, 0, 0, 3000);
            CHECKS.due("to place 0", first.run(fused, 9), 1);
            CHECKS.dueAbout("to the last place", last, fused, 79, 0, 0, 0, 5, 2);
        }
    }

    private static void goesIfZero() {
        CHECKS.sentence("Z takes a value, and goes to place N if it is 0.");
        leaves("P0 Z3 P1 P2", 2);
        leaves("P9 P0 Z4 P1 P2", 9, 2);
        for (int value : new int[] {1, -1, 2, 65536, MIN, MAX}) {
            leaves("P" + value + " Z3 P1 P2", 1, 2);
        }
        // The value is taken though Z leads to itself: the next time there is none.
        CountedEngine x = Checks.ranOf("P0 Z1");
        for (boolean fused : Checks.BOTH) {
            CHECKS.dueAbout("to itself", x, fused, 1, 0, 0, 0, 1, 2);
        }
    }

    private static void calls() {
        CHECKS.sentence("C goes to place N, the place behind it being a return place more.");
        CountedEngine x = Checks.ranOf("C3 P1 H C6 P2 R P3 R");
        CountedEngine open = Checks.ranOf("C2 H C4 H H");
        CountedEngine behind = Checks.ranOf("C1 H");
        for (boolean fused : Checks.BOTH) {
            CHECKS.dueStack("calls", x, fused, 3, 2, 1);
            CHECKS.dueAbout("calls", x, fused, 2, 3, 0, 0, 5, 8);
            CHECKS.dueAbout("open calls", open, fused, 4, 0, 2, 0, 5, 3);
            CHECKS.dueAbout("a call of the place behind it", behind, fused, 1, 0, 1, 0, 5, 2);
        }
    }

    private static void callsFromTheLastPlace() {
        CHECKS.sentence("C goes to place N, the place behind it being a return place more.");
        CountedEngine small = Checks.ranOf("J2 R C1");
        CountedEngine full = Checks.ranOf("J79 R " + Checks.times(77, "V") + " C1");
        for (boolean fused : Checks.BOTH) {
            CHECKS.dueAbout("back behind the program", small, fused, 3, 0, 0, 0, 4, 3);
            CHECKS.dueAbout("back behind the full program", full, fused, 80, 0, 0, 0, 4, 3);
        }
    }

    private static void returns() {
        CHECKS.sentence("R takes the latest return place away and goes there.");
        CountedEngine x = Checks.fusedOf("C2 H C4 R R");
        int[] places = {2, 4, 3, 1, 1};
        int[] open = {1, 2, 1, 0, 0};
        for (boolean fused : Checks.BOTH) {
            for (int k = 0; k < places.length; k++) {
                CHECKS.due("step " + k, x.run(fused, 1), 1);
                CHECKS.dueAbout("step " + k, x, fused, places[k], 0, open[k], 0, k == 4 ? 5 : 0, k + 1);
            }
        }
    }

    private static void ends() {
        CHECKS.sentence("H ends the run; the place stays, and it counts as done.");
        CountedEngine first = Checks.fusedOf("H P1");
        CountedEngine last = Checks.fusedOf("P1 H");
        for (boolean fused : Checks.BOTH) {
            CHECKS.due("H first", first.run(fused, 3000), 1);
            CHECKS.dueAbout("H first", first, fused, 0, 0, 0, 0, 5, 1);
            CHECKS.due("H first, once more", first.run(fused, 3000), 0);
            CHECKS.dueAbout("H first, once more", first, fused, 0, 0, 0, 0, 5, 1);
            CHECKS.due("H last", last.run(fused, 3000), 2);
            CHECKS.dueAbout("H last", last, fused, 1, 1, 0, 0, 5, 2);
        }
    }
}
