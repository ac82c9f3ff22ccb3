import java.util.ArrayList;
import java.util.List;
import java.util.function.IntSupplier;
import java.util.function.Supplier;

/** What an engine tells of itself, a line for each call; a call that throws is a line as well. */
final class Answers {
    private final List<String> lines = new ArrayList<>();

    /**
     * All that can be asked, now and after both machines have gone on (which shows the return places).
     * Each part is asked of an object of its own, made in the same way, for the sake of its 512 calls.
     */
    static List<String> ofAll(Supplier<CountedEngine> made) {
        Answers answers = new Answers();
        answers.askProgram(made.get(), -1, 40);
        answers.askProgram(made.get(), 40, 81);
        answers.askMachine(made.get(), Checks.PLAIN);
        answers.askMachine(made.get(), Checks.FUSED);
        for (boolean fused : Checks.BOTH) {
            CountedEngine later = made.get();
            answers.ask("run(" + fused + ", 3000)", () -> later.run(fused, 3000));
            answers.askMachine(later, fused);
        }
        return answers.lines;
    }

    /** All that can be asked of a machine now, but for how it is (about 4). */
    static List<String> ofParts(CountedEngine x, boolean fused) {
        Answers answers = new Answers();
        answers.askMachine(x, fused);
        answers.lines.removeIf(line -> line.startsWith("about(" + fused + ", 4)"));
        return answers.lines;
    }

    private void askProgram(CountedEngine x, int from, int to) {
        for (int k = from; k < to; k++) {
            int place = k;
            for (int w = 0; w < 4; w++) {
                int what = w;
                ask("look(" + place + ", " + what + ")", () -> x.look(place, what));
            }
        }
    }

    private void askMachine(CountedEngine x, boolean fused) {
        for (int k = -1; k < 7; k++) {
            int what = k;
            ask("about(" + fused + ", " + what + ")", () -> x.about(fused, what));
        }
        for (int n = 0; n < 41; n++) {
            int k = n;
            ask("stack(" + fused + ", " + k + ")", () -> x.stack(fused, k));
        }
        for (int n = 0; n < 9; n++) {
            int k = n;
            ask("local(" + fused + ", " + k + ")", () -> x.local(fused, k));
        }
        for (int n = 0; n < 61; n++) {
            int k = n;
            ask("out(" + fused + ", " + k + ")", () -> x.out(fused, k));
        }
    }

    private void ask(String call, IntSupplier body) {
        String answer;
        try {
            answer = " answers " + body.getAsInt();
        } catch (RuntimeException e) {
            answer = " throws " + e.getClass().getSimpleName();
        }
        lines.add(call + answer);
    }
}
