import java.util.NoSuchElementException;

/** Promises 2 (add), 3 (change) and 4 (clear). */
public final class ProgramTest {
    private static final Checks CHECKS = new Checks();

    public static void main(String[] args) {
        everyIntAsLetter();
        numbers();
        full();
        addUnfusesAndRestarts();
        refusedAddChangesNothing();
        change();
        changeUnfusesAndRestarts();
        refusedChangeChangesNothing();
        clear();
        CHECKS.end();
    }

    private static void everyIntAsLetter() {
        FusedEngine x = new FusedEngine();
        int place = 0;
        for (int letter = -300; letter < 70000; letter++) {
            int one = letter;
            if (letter >= 0 && letter < 128 && Checks.LETTERS.indexOf(letter) >= 0) {
                CHECKS.due("add(" + one + ", 0)", x.add(one, 0), place);
                CHECKS.due("look(" + place + ", 0)", x.look(place, 0), one);
                place++;
            } else {
                CHECKS.dueThrow("add(" + one + ", 0)", IllegalArgumentException.class, () -> x.add(one, 0));
            }
        }
        CHECKS.due("letters", place, 18);
        for (int letter : new int[] {Integer.MIN_VALUE, Integer.MAX_VALUE, 'P' - 65536, 'P' + (1 << 24)}) {
            CHECKS.dueThrow("add(" + letter + ", 0)", IllegalArgumentException.class, () -> x.add(letter, 0));
        }
    }

    private static void numbers() {
        int[] odd = {-1, 8, 80, Integer.MIN_VALUE, Integer.MAX_VALUE};
        for (char letter : Checks.LETTERS.toCharArray()) {
            FusedEngine x = new FusedEngine();
            for (int n = 0; n < 8; n++) {
                CHECKS.due("add(" + letter + ", " + n + ")", x.add(letter, n), n);
                CHECKS.due("look(" + n + ", 1)", x.look(n, 1), n);
            }
            int place = 8;
            for (int n : odd) {
                if (letter == 'L' || letter == 'S') {
                    CHECKS.dueThrow(letter + " " + n, IllegalArgumentException.class, () -> x.add(letter, n));
                } else {
                    CHECKS.due(letter + " " + n, x.add(letter, n), place);
                    CHECKS.due("look(" + place + ", 1)", x.look(place, 1), n);
                    place++;
                }
            }
        }
    }

    private static void full() {
        FusedEngine x = new FusedEngine();
        for (int place = 0; place < 80; place++) {
            CHECKS.due("add to the full", x.add('P', place), place);
        }
        CHECKS.dueThrow("81st", IllegalStateException.class, () -> x.add('P', 1));
        CHECKS.dueThrow("81st, wrong letter", IllegalArgumentException.class, () -> x.add('A', 1));
        CHECKS.dueThrow("81st, wrong local", IllegalArgumentException.class, () -> x.add('L', 8));
        CHECKS.due("full: look(79, 1)", x.look(79, 1), 79);
        CHECKS.dueThrow("full: look(80, 0)", NoSuchElementException.class, () -> x.look(80, 0));
        CHECKS.due("full: fuse()", x.fuse(), 80);
        CHECKS.due("full: run(true, 5)", x.run(Checks.FUSED, 5), 5);
        CHECKS.dueThrow("81st", IllegalStateException.class, () -> x.add('P', 1));
        CHECKS.due("full, refused: look(79, 2)", x.look(79, 2), -1);
        CHECKS.dueAbout("full, refused", x, Checks.FUSED, 5, 5, 0, 0, 0, 5);
    }

    private static FusedEngine busy() {
        FusedEngine x = Checks.fusedOf("P1 S2 P3 P4 O H");
        x.run(Checks.PLAIN, 4);
        x.run(Checks.FUSED, 3);
        return x;
    }

    private static void dueBusy(String when, FusedEngine x) {
        CHECKS.dueAbout(when, x, Checks.PLAIN, 4, 2, 0, 0, 0, 4);
        CHECKS.dueAbout(when, x, Checks.FUSED, 4, 2, 0, 0, 0, 4);
        CHECKS.due(when + ": look(0, 2)", x.look(0, 2), 10);
        CHECKS.due(when + ": local", x.local(Checks.FUSED, 2), 1);
        CHECKS.due(when + ": local", x.local(Checks.PLAIN, 2), 1);
    }

    private static void dueUnfused(String when, FusedEngine x) {
        CHECKS.dueBeginning(when, x);
        CHECKS.dueThrow(when + ": run(true, 0)", IllegalStateException.class, () -> x.run(true, 0));
        CHECKS.dueThrow(when + ": look(0, 2)", NoSuchElementException.class, () -> x.look(0, 2));
    }

    private static void addUnfusesAndRestarts() {
        FusedEngine x = busy();
        dueBusy("busy", x);
        CHECKS.due("add(H, 0)", x.add('H', 0), 6);
        dueUnfused("after add", x);
    }

    private static void refusedAddChangesNothing() {
        FusedEngine x = busy();
        CHECKS.dueThrow("add(A, 0)", IllegalArgumentException.class, () -> x.add('A', 0));
        CHECKS.dueThrow("add(p, 0)", IllegalArgumentException.class, () -> x.add('p', 0));
        CHECKS.dueThrow("add(L, -1)", IllegalArgumentException.class, () -> x.add('L', -1));
        CHECKS.dueThrow("add(S, 8)", IllegalArgumentException.class, () -> x.add('S', 8));
        dueBusy("after refused adds", x);
        CHECKS.dueThrow("look(6, 0)", NoSuchElementException.class, () -> x.look(6, 0));
    }

    private static int change(FusedEngine x, int place, int letter, int n) {
        x.change(place, letter, n);
        return 0;
    }

    private static void change() {
        FusedEngine x = Checks.engineOf("P1 P2 P3");
        x.change(1, 'L', 7);
        x.change(2, 'J', -5);
        String want = "P1 L7 J-5";
        int place = 0;
        for (String word : want.split(" ")) {
            CHECKS.due("changed: look(" + place + ", 0)", x.look(place, 0), word.charAt(0));
            CHECKS.due("changed: look(" + place + ", 1)", x.look(place, 1), Integer.parseInt(word.substring(1)));
            place++;
        }
        CHECKS.due("add after change", x.add('H', 0), 3);
        x.change(2, 'J', 0);
        CHECKS.due("new target", x.look(0, 3), 1);
        x.change(2, 'J', 1);
        CHECKS.due("no target any more", x.look(0, 3), 0);
        CHECKS.due("the new one", x.look(1, 3), 1);
    }

    private static void changeUnfusesAndRestarts() {
        FusedEngine x = busy();
        x.change(0, 'P', 1);
        dueUnfused("after a change to the same", x);
        CHECKS.due("fuse again", x.fuse(), 5);
        x.change(1, 'V', 0);
        dueUnfused("after a change", x);
        CHECKS.due("fuse the changed one", x.fuse(), 6);
        CHECKS.due("run the changed one", x.run(Checks.FUSED, 9), 6);
        CHECKS.due("local of the changed one", x.local(Checks.FUSED, 2), 0);
    }

    private static void refusedChangeChangesNothing() {
        FusedEngine x = busy();
        for (int place : new int[] {-1, 6, 79, 80, Integer.MIN_VALUE, Integer.MAX_VALUE}) {
            CHECKS.dueThrow("change(" + place + ", P, 0)", NoSuchElementException.class, () -> change(x, place, 'P', 0));
            CHECKS.dueThrow("change(" + place + ", A, 0)", NoSuchElementException.class, () -> change(x, place, 'A', 0));
        }
        CHECKS.dueThrow("change(0, A, 0)", IllegalArgumentException.class, () -> change(x, 0, 'A', 0));
        CHECKS.dueThrow("change(5, L, 8)", IllegalArgumentException.class, () -> change(x, 5, 'L', 8));
        CHECKS.dueThrow("change(5, S, -1)", IllegalArgumentException.class, () -> change(x, 5, 'S', -1));
        dueBusy("after refused changes", x);
        CHECKS.due("look(0, 0)", x.look(0, 0), 'P');
        CHECKS.due("look(5, 0)", x.look(5, 0), 'H');
    }

    private static void clear() {
        FusedEngine x = busy();
        x.clear();
        dueUnfused("after clear", x);
        CHECKS.dueThrow("cleared: look(0, 0)", NoSuchElementException.class, () -> x.look(0, 0));
        CHECKS.dueThrow("cleared: change", NoSuchElementException.class, () -> change(x, 0, 'P', 0));
        CHECKS.due("cleared: fuse()", x.fuse(), 0);
        CHECKS.due("cleared: add", x.add('P', 1), 0);
        x.clear();
        Checks.addAll(x, "J1 P1 P1");
        CHECKS.due("target", x.look(1, 3), 1);
        x.clear();
        Checks.addAll(x, "H P1 S1");
        CHECKS.due("targets are gone", x.look(1, 3), 0);
        CHECKS.due("cleared and fused", x.fuse(), 2);
        FusedEngine full = Checks.engineOf(Checks.times(80, "H"));
        full.clear();
        CHECKS.due("full and cleared: add", full.add('P', 1), 0);
        CHECKS.dueThrow("full and cleared: look(1, 0)", NoSuchElementException.class, () -> full.look(1, 0));
    }
}
