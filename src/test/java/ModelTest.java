import java.util.ArrayList;
import java.util.HashSet;
import java.util.List;
import java.util.NoSuchElementException;
import java.util.Random;
import java.util.Set;

/**
 * Rows of calls, made by a random source with a written seed, on the engine and on a second one
 * that is written straight from the document with lists and texts: all answers are the same, and
 * the machines have the same states wherever the fused one stands.
 */
public final class ModelTest {
    private static final Checks CHECKS = new Checks();
    private static final int ROUNDS = 6000;
    private static int round;

    public static void main(String[] args) {
        for (round = 0; round < ROUNDS; round++) {
            // What is to be compared needs more calls than one object may be used for.
            Pair pair = new Pair();
            compareProgram(pair.x, pair.model, 0, 40);
            pair = new Pair();
            compareProgram(pair.x, pair.model, 40, 80);
            pair = new Pair();
            runBoth(pair.random, pair.x, pair.model);
            pair = new Pair();
            compareWalk(pair.random, pair.x, pair.model);
        }
        CHECKS.end();
    }

    /** An engine and a model with the same program, written twice over; the same for one round. */
    private static final class Pair {
        final Random random = new Random(20261115 + round * 0x9E3779B97F4A7C15L);
        final CountedEngine x = new CountedEngine();
        final Model model = new Model();

        Pair() {
            write(random, x, model);
            x.run(true, random.nextInt(100));
            x.run(false, random.nextInt(100));
            write(random, x, model);
        }
    }

    private static int letterFor(Random random, boolean growing) {
        return growing && random.nextInt(3) > 0 ? "PLDP".charAt(random.nextInt(4))
            : Checks.LETTERS.charAt(random.nextInt(Checks.LETTERS.length()));
    }

    private static int numberFor(Random random, int letter, int size) {
        if (letter == 'L' || letter == 'S') {
            return random.nextInt(8);
        }
        if (letter == 'P') {
            return random.nextInt(4) == 0 ? random.nextInt() : random.nextInt(4) - 1;
        }
        return random.nextInt(12) == 0 ? random.nextInt(100) - 10 : random.nextInt(size + 1);
    }

    private static void write(Random random, CountedEngine x, Model model) {
        if (random.nextInt(2) == 0) {
            x.clear();
            model.words.clear();
        }
        int size = random.nextInt(random.nextInt(4) == 0 ? 80 : 25);
        boolean growing = random.nextBoolean();
        while (model.words.size() < size) {
            String row = random.nextInt(3) == 0 ? Checks.ROWS[random.nextInt(20)] : "" + (char) letterFor(random, growing);
            for (int k = 0; k < row.length() && model.words.size() < 80; k++) {
                int n = numberFor(random, row.charAt(k), size);
                CHECKS.due(round + ": add", x.add(row.charAt(k), n), model.words.size());
                model.words.add(new int[] {row.charAt(k), n});
            }
        }
        for (int k = random.nextInt(4); k > 0 && !model.words.isEmpty(); k--) {
            int place = random.nextInt(model.words.size());
            int letter = letterFor(random, growing);
            int n = numberFor(random, letter, size);
            x.change(place, letter, n);
            model.words.set(place, new int[] {letter, n});
        }
        model.fuseAnew();
        CHECKS.due(round + ": fuse", x.fuse(), model.fusedSize);
    }

    private static void compareProgram(CountedEngine x, Model model, int from, int to) {
        for (int place = from; place < Math.min(to, model.words.size()); place++) {
            CHECKS.due(round + ": letter at " + place, x.look(place, 0), model.words.get(place)[0]);
            CHECKS.due(round + ": N at " + place, x.look(place, 1), model.words.get(place)[1]);
            CHECKS.due(round + ": row at " + place, x.look(place, 2), model.rows[place]);
            CHECKS.due(round + ": target " + place, x.look(place, 3), model.targets.contains(place) ? 1 : 0);
        }
        if (model.words.size() < to) {
            CHECKS.dueThrow(round + ": look behind the last", NoSuchElementException.class,
                () -> x.look(model.words.size(), 0));
        }
    }

    private static void runBoth(Random random, CountedEngine x, Model model) {
        Model.Twin[] twins = {model.new Twin(), model.new Twin()};
        for (int k = 0; k < 8; k++) {
            boolean fused = random.nextBoolean();
            int n = random.nextInt(3) == 0 ? random.nextInt(4000) - 10 : random.nextInt(20);
            Model.Twin twin = twins[fused ? 1 : 0];
            CHECKS.due(round + ": run(" + fused + ", " + n + ")", x.run(fused, n), twin.go(fused, n));
            CHECKS.due(round + ": about(" + fused + ", 4)", x.about(fused, 4), twin.state);
        }
        for (boolean fused : Checks.BOTH) {
            compareMachine(x, fused, twins[fused ? 1 : 0]);
        }
    }

    private static void compareMachine(CountedEngine x, boolean fused, Model.Twin twin) {
        String when = round + " (" + fused + ")";
        CHECKS.dueAbout(when, x, fused, twin.place, twin.stack.size(), twin.returns.size(), twin.out.size(),
            twin.state, twin.done);
        CHECKS.dueStack(when, x, fused, twin.stack.stream().mapToInt(value -> value).toArray());
        for (int k = 0; k < 8; k++) {
            CHECKS.due(when + ": local " + k, x.local(fused, k), twin.locals[k]);
        }
        for (int k = 0; k < Math.min(60, twin.out.size()); k++) {
            CHECKS.due(when + ": out " + k, x.out(fused, k), twin.out.get(k));
        }
        CHECKS.dueThrow(when + ": out", NoSuchElementException.class,
            () -> x.out(fused, Math.min(60, twin.out.size())));
    }

    /** The plain machine, brought to as many instructions, has the fused one's state. */
    private static void compareWalk(Random random, CountedEngine x, Model model) {
        for (int k = 0; k < 3; k++) {
            x.run(true, 1 + random.nextInt(20));
            x.run(false, x.about(true, 5) - x.about(false, 5));
            if (x.about(true, 4) != x.about(false, 4)) {
                x.run(false, 1);
            }
            for (int what = 0; what < 6; what++) {
                CHECKS.due(round + ": same about " + what, x.about(true, what), x.about(false, what));
            }
            int height = x.about(true, 1);
            for (int h = 0; h < height; h++) {
                CHECKS.due(round + ": same stack", x.stack(true, h), x.stack(false, h));
            }
            int place = x.about(true, 0);
            if (x.about(true, 4) == 0 && place >= 0 && place < model.words.size() && x.look(place, 2) == -2) {
                CHECKS.fail(round + ": the fused machine stands within a row, at " + place);
            }
        }
    }

    /** The document once more, without a thought for speed. */
    private static final class Model {
        final List<int[]> words = new ArrayList<>();
        final Set<Integer> targets = new HashSet<>();
        int[] rows;
        int fusedSize;

        void fuseAnew() {
            StringBuilder text = new StringBuilder();
            targets.clear();
            for (int place = 0; place < words.size(); place++) {
                char letter = (char) words.get(place)[0];
                text.append(letter);
                if ("JZC".indexOf(letter) >= 0) {
                    targets.add(words.get(place)[1]);
                }
                if (letter == 'C') {
                    targets.add(place + 1);
                }
            }
            rows = new int[words.size()];
            fusedSize = 0;
            for (int place = 0; place < rows.length; fusedSize++) {
                int row = rowAt(text.toString(), place);
                rows[place] = row;
                int length = row < 0 ? 1 : Checks.ROWS[row].length();
                java.util.Arrays.fill(rows, place + 1, place + length, -2);
                place += length;
            }
        }

        private int rowAt(String text, int place) {
            for (int length = 4; length > 1; length--) {
                for (int row = 0; row < 20; row++) {
                    if (Checks.ROWS[row].length() == length && text.startsWith(Checks.ROWS[row], place)
                        && !anyTarget(place + 1, place + length)) {
                        return row;
                    }
                }
            }
            return -1;
        }

        private boolean anyTarget(int from, int to) {
            for (int place = from; place < to; place++) {
                if (targets.contains(place)) {
                    return true;
                }
            }
            return false;
        }

        final class Twin {
            final List<Integer> stack = new ArrayList<>();
            final List<Integer> returns = new ArrayList<>();
            final List<Integer> out = new ArrayList<>();
            final int[] locals = new int[8];
            int place;
            int state;
            int done;

            int go(boolean fused, int n) {
                for (int steps = 0; steps < Math.min(n, 3000); steps++) {
                    if (state != 0) {
                        return steps;
                    }
                    if (place < 0 || place >= words.size()) {
                        state = 4;
                        return steps;
                    }
                    int row = fused ? rows[place] : -1;
                    for (int k = row < 0 ? 1 : Checks.ROWS[row].length(); k > 0 && state == 0; k--) {
                        one((char) words.get(place)[0], words.get(place)[1]);
                    }
                }
                return Math.max(0, Math.min(n, 3000));
            }

            private int take() {
                return stack.remove(stack.size() - 1);
            }

            private void one(char letter, int n) {
                int takes = "+-*/<=X".indexOf(letter) >= 0 ? 2 : "SDOVZ".indexOf(letter) >= 0 ? 1 : 0;
                int puts = letter == 'D' || letter == 'X' ? 2 : "PL+-*/<=".indexOf(letter) >= 0 ? 1 : 0;
                if (stack.size() < takes || letter == 'R' && returns.isEmpty()) {
                    state = 1;
                } else if (stack.size() - takes + puts > 40 || letter == 'C' && returns.size() == 10) {
                    state = 2;
                } else if (letter == '/' && stack.get(stack.size() - 1) == 0) {
                    state = 3;
                } else {
                    done++;
                    int b = takes > 0 ? take() : 0;
                    int a = takes > 1 ? take() : 0;
                    effect(letter, n, a, b);
                }
            }

            private void effect(char letter, int n, int a, int b) {
                int next = place + 1;
                switch (letter) {
                    case 'P' -> stack.add(n);
                    case 'L' -> stack.add(locals[n]);
                    case 'S' -> locals[n] = b;
                    case '+' -> stack.add((int) ((long) a + b));
                    case '-' -> stack.add((int) ((long) a - b));
                    case '*' -> stack.add((int) ((long) a * b));
                    case '/' -> stack.add((int) ((long) a / b));
                    case '<' -> stack.add(a < b ? 1 : 0);
                    case '=' -> stack.add(a == b ? 1 : 0);
                    case 'D' -> stack.addAll(List.of(b, b));
                    case 'X' -> stack.addAll(List.of(b, a));
                    case 'O' -> out.add(b);
                    case 'V' -> { }
                    case 'J' -> next = n;
                    case 'Z' -> next = b == 0 ? n : next;
                    case 'C' -> {
                        returns.add(next);
                        next = n;
                    }
                    case 'R' -> next = returns.remove(returns.size() - 1);
                    default -> {
                        state = 5;
                        next = place;
                    }
                }
                place = next;
            }
        }
    }
}
