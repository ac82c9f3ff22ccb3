import java.util.Arrays;
import java.util.NoSuchElementException;

/**
 * A program of small instructions on a stack, and two machines that run it: the plain one
 * instruction by instruction, the fused one with rows of instructions as single steps.
 */
public final class FusedEngine {
    public static final int NONE = -1;

    private final Program program;
    private final Machine plainMachine;
    private final Machine fusedMachine;

    public FusedEngine() {
        program = new Program();
        plainMachine = new Machine();
        fusedMachine = new Machine();
    }

    public int add(int letter, int n) throws IllegalArgumentException, IllegalStateException {
        if (!Program.allows(letter, n)) {
            throw new IllegalArgumentException("no such instruction");
        }
        if (program.size == Program.MOST) {
            throw new IllegalStateException("the program is full");
        }
        int place = program.append(letter, n);
        beginBoth();
        return place;
    }

    public void change(int place, int letter, int n) throws NoSuchElementException, IllegalArgumentException {
        if (!program.has(place)) {
            throw new NoSuchElementException("no such place");
        }
        if (!Program.allows(letter, n)) {
            throw new IllegalArgumentException("no such instruction");
        }
        program.replace(place, letter, n);
        beginBoth();
    }

    public void clear() {
        program.removeAll();
        beginBoth();
    }

    public int fuse() {
        int count = program.fuseRows();
        beginBoth();
        return count;
    }

    public int look(int place, int what) throws NoSuchElementException {
        if (!program.has(place)) {
            throw new NoSuchElementException("no such place");
        }
        if (what < 0 || what > 3) {
            throw new NoSuchElementException("nothing to be looked at by this number");
        }
        if (what == 2 && !program.isFused) {
            throw new NoSuchElementException("the program is not fused");
        }
        return program.factOf(place, what);
    }

    public int run(boolean fused, int n) throws IllegalStateException {
        if (fused && !program.isFused) {
            throw new IllegalStateException("the program is not fused");
        }
        return machineOf(fused).goOn(program, fused, n);
    }

    public void restart() {
        beginBoth();
    }

    public int about(boolean fused, int what) {
        return machineOf(fused).factOf(what);
    }

    public int stack(boolean fused, int k) throws NoSuchElementException {
        Machine machine = machineOf(fused);
        if (k < 0 || k >= machine.height) {
            throw new NoSuchElementException("no such value on the stack");
        }
        return machine.values[k];
    }

    public int local(boolean fused, int k) throws NoSuchElementException {
        if (k < 0 || k >= Machine.LOCALS) {
            throw new NoSuchElementException("no such local");
        }
        return machineOf(fused).locals[k];
    }

    public int out(boolean fused, int k) throws NoSuchElementException {
        Machine machine = machineOf(fused);
        if (k < 0 || k >= machine.keptOutputs()) {
            throw new NoSuchElementException("no such value put out, or not kept");
        }
        return machine.outputs[k];
    }

    private Machine machineOf(boolean fused) {
        return fused ? fusedMachine : plainMachine;
    }

    private void beginBoth() {
        plainMachine.begin();
        fusedMachine.begin();
    }

    /** The rows that are fused, by number. */
    private static final class Rows {
        static final int COUNT = 20;
        static final int LONGEST = 4;

        // Each row is filled up with blanks, so that row r begins at r * LONGEST.
        private static final char[] LETTERS = {
            'L', 'L', ' ', ' ',
            'L', 'P', ' ', ' ',
            'P', '+', ' ', ' ',
            'P', '-', ' ', ' ',
            'L', '+', ' ', ' ',
            'D', 'X', ' ', ' ',
            'D', '*', ' ', ' ',
            '<', 'Z', ' ', ' ',
            '=', 'Z', ' ', ' ',
            'S', 'L', ' ', ' ',
            'P', 'S', ' ', ' ',
            'L', 'L', '+', ' ',
            'L', 'P', '+', ' ',
            'L', 'P', '<', 'Z',
            'L', 'P', '+', 'S',
            'L', 'L', 'L', ' ',
            'P', '=', 'Z', ' ',
            'L', '-', ' ', ' ',
            'V', 'L', ' ', ' ',
            'D', 'O', ' ', ' ',
        };

        static int letterOf(int row, int k) {
            return LETTERS[row * LONGEST + k];
        }

        static int lengthOf(int row) {
            int length = 0;
            while (length < LONGEST && letterOf(row, length) != ' ') {
                length++;
            }
            return length;
        }
    }

    /** The instructions, which of their places are targets, and how they are fused. */
    private static final class Program {
        static final int MOST = 80;
        static final int WITHIN = -2;
        private static final String LETTERS = "PLS+-*/<=DXOVJZCRH";

        final int[] letters = new int[MOST];
        final int[] numbers = new int[MOST];
        final boolean[] targets = new boolean[MOST];
        // These two hold only while the program is fused.
        final int[] rows = new int[MOST];
        final int[] lengths = new int[MOST];
        int size;
        boolean isFused;

        static boolean allows(int letter, int n) {
            if (letter == 'L' || letter == 'S') {
                return n >= 0 && n < Machine.LOCALS;
            }
            for (int i = 0; i < LETTERS.length(); i++) {
                if (LETTERS.charAt(i) == letter) {
                    return true;
                }
            }
            return false;
        }

        boolean has(int place) {
            return place >= 0 && place < size;
        }

        int append(int letter, int n) {
            int place = size;
            size++;
            replace(place, letter, n);
            return place;
        }

        void replace(int place, int letter, int n) {
            letters[place] = letter;
            numbers[place] = n;
            isFused = false;
            findTargets();
        }

        void removeAll() {
            size = 0;
            isFused = false;
        }

        int factOf(int place, int what) {
            switch (what) {
                case 0:
                    return letters[place];
                case 1:
                    return numbers[place];
                case 2:
                    return rows[place];
                default:
                    return targets[place] ? 1 : 0;
            }
        }

        private void findTargets() {
            for (int place = 0; place < size; place++) {
                targets[place] = false;
            }
            for (int place = 0; place < size; place++) {
                int letter = letters[place];
                if (letter == 'J' || letter == 'Z' || letter == 'C') {
                    markTarget(numbers[place]);
                }
                if (letter == 'C') {
                    markTarget(place + 1);
                }
            }
        }

        private void markTarget(int place) {
            if (has(place)) {
                targets[place] = true;
            }
        }

        int fuseRows() {
            int count = 0;
            int within = 0;
            for (int place = 0; place < size; place++) {
                if (within > 0) {
                    rows[place] = WITHIN;
                    lengths[place] = 1;
                    within--;
                } else {
                    int row = longestRowAt(place);
                    rows[place] = row;
                    lengths[place] = row == NONE ? 1 : Rows.lengthOf(row);
                    within = lengths[place] - 1;
                    count++;
                }
            }
            isFused = true;
            return count;
        }

        private int longestRowAt(int place) {
            int best = NONE;
            int bestLength = 0;
            for (int row = 0; row < Rows.COUNT; row++) {
                if (Rows.letterOf(row, 0) == letters[place]) {
                    int length = Rows.lengthOf(row);
                    if (length > bestLength && isRowAt(place, row, length)) {
                        best = row;
                        bestLength = length;
                    }
                }
            }
            return best;
        }

        private boolean isRowAt(int place, int row, int length) {
            if (place + length > size) {
                return false;
            }
            for (int k = 0; k < length; k++) {
                if (letters[place + k] != Rows.letterOf(row, k)) {
                    return false;
                }
                if (k > 0 && targets[place + k]) {
                    return false;
                }
            }
            return true;
        }
    }

    /** A stack, locals, return places and an output, and what the letters do to them. */
    private static final class Machine {
        static final int LOCALS = 8;
        private static final int MOST_VALUES = 40;
        private static final int MOST_RETURNS = 10;
        private static final int KEPT_OUTPUTS = 60;
        private static final int MOST_STEPS = 3000;

        private static final int GOES_ON = 0;
        private static final int UNDER = 1;
        private static final int OVER = 2;
        private static final int ZERO = 3;
        private static final int LOST = 4;
        private static final int ENDED = 5;

        final int[] values = new int[MOST_VALUES];
        final int[] locals = new int[LOCALS];
        final int[] outputs = new int[KEPT_OUTPUTS];
        private final int[] returns = new int[MOST_RETURNS];
        int height;
        private int returnCount;
        private int outputCount;
        private int place;
        private int state;
        private int done;

        void begin() {
            Arrays.fill(locals, 0);
            height = 0;
            returnCount = 0;
            outputCount = 0;
            place = 0;
            state = GOES_ON;
            done = 0;
        }

        int keptOutputs() {
            return Math.min(outputCount, KEPT_OUTPUTS);
        }

        int factOf(int what) {
            switch (what) {
                case 0:
                    return place;
                case 1:
                    return height;
                case 2:
                    return returnCount;
                case 3:
                    return outputCount;
                case 4:
                    return state;
                case 5:
                    return done;
                default:
                    return NONE;
            }
        }

        int goOn(Program program, boolean byRows, int n) {
            int most = Math.min(n, MOST_STEPS);
            int steps = 0;
            while (steps < most && state == GOES_ON && program.has(place)) {
                doRow(program, byRows ? program.lengths[place] : 1);
                steps++;
            }
            // Only a step that was still due can find that its place is missing.
            if (steps < most && state == GOES_ON) {
                state = LOST;
            }
            return steps;
        }

        private void doRow(Program program, int length) {
            for (int k = 0; k < length && state == GOES_ON; k++) {
                int letter = program.letters[place];
                int trap = trapOf(letter);
                if (trap == GOES_ON) {
                    done++;
                    act(letter, program.numbers[place]);
                } else {
                    state = trap;
                }
            }
        }

        private int trapOf(int letter) {
            if (height < neededValues(letter) || letter == 'R' && returnCount == 0) {
                return UNDER;
            }
            if (putsOneMore(letter) && height == MOST_VALUES || letter == 'C' && returnCount == MOST_RETURNS) {
                return OVER;
            }
            if (letter == '/' && values[height - 1] == 0) {
                return ZERO;
            }
            return GOES_ON;
        }

        private static int neededValues(int letter) {
            switch (letter) {
                case '+':
                case '-':
                case '*':
                case '/':
                case '<':
                case '=':
                case 'X':
                    return 2;
                case 'S':
                case 'D':
                case 'O':
                case 'V':
                case 'Z':
                    return 1;
                default:
                    return 0;
            }
        }

        private static boolean putsOneMore(int letter) {
            return letter == 'P' || letter == 'L' || letter == 'D';
        }

        // Does an instruction of which trapOf has said that it does not trap.
        private void act(int letter, int n) {
            int next = place + 1;
            switch (letter) {
                case 'P':
                    push(n);
                    break;
                case 'L':
                    push(locals[n]);
                    break;
                case 'S':
                    locals[n] = pop();
                    break;
                case 'D':
                    push(values[height - 1]);
                    break;
                case 'X':
                    exchange();
                    break;
                case 'O':
                    putOut(pop());
                    break;
                case 'V':
                    pop();
                    break;
                case 'J':
                    next = n;
                    break;
                case 'Z':
                    next = pop() == 0 ? n : next;
                    break;
                case 'C':
                    returns[returnCount] = next;
                    returnCount++;
                    next = n;
                    break;
                case 'R':
                    returnCount--;
                    next = returns[returnCount];
                    break;
                case 'H':
                    state = ENDED;
                    next = place;
                    break;
                default:
                    combine(letter);
                    break;
            }
            place = next;
        }

        private void push(int value) {
            values[height] = value;
            height++;
        }

        private int pop() {
            height--;
            return values[height];
        }

        private void exchange() {
            int top = values[height - 1];
            values[height - 1] = values[height - 2];
            values[height - 2] = top;
        }

        private void putOut(int value) {
            if (outputCount < KEPT_OUTPUTS) {
                outputs[outputCount] = value;
            }
            outputCount++;
        }

        private void combine(int letter) {
            int b = pop();
            int a = pop();
            push(resultOf(letter, a, b));
        }

        private static int resultOf(int letter, int a, int b) {
            switch (letter) {
                case '+':
                    return a + b;
                case '-':
                    return a - b;
                case '*':
                    return a * b;
                case '/':
                    return a / b;
                case '<':
                    return a < b ? 1 : 0;
                default:
                    return a == b ? 1 : 0;
            }
        }
    }
}
