import java.util.List;
import java.util.function.IntSupplier;
import java.util.function.Supplier;
import java.util.function.ToIntFunction;

/** What the tests share: counting wrong answers, and programs written as text. */
final class Checks {
    static final String LETTERS = "PLS+-*/<=DXOVJZCRH";
    static final String[] ROWS = {
        "LL", "LP", "P+", "P-", "L+", "DX", "D*", "<Z", "=Z", "SL",
        "PS", "LL+", "LP+", "LP<Z", "LP+S", "LLL", "P=Z", "L-", "VL", "DO",
    };

    static final boolean PLAIN = false;
    static final boolean FUSED = true;
    static final boolean[] BOTH = {PLAIN, FUSED};

    private int wrong;
    private String sentence = "";

    /** The words of the document that the checks from here on are about. */
    void sentence(String words) {
        sentence = words;
    }

    void due(String call, long got, long want) {
        if (got != want) {
            fail(call + " answered " + got + ", due is " + want);
        }
    }

    void dueThrow(String call, Class<? extends RuntimeException> want, IntSupplier body) {
        try {
            fail(call + " answered " + body.getAsInt() + ", due is throws." + want.getSimpleName());
        } catch (RuntimeException e) {
            if (e.getClass() != want) {
                fail(call + " throws " + e + ", due is throws." + want.getSimpleName());
            }
        }
    }

    /** The call throws, and all that can be asked is as if it had not been made. */
    void dueRefused(String call, Class<? extends RuntimeException> want, Supplier<CountedEngine> made,
            ToIntFunction<CountedEngine> body) {
        dueThrow(call, want, () -> body.applyAsInt(made.get()));
        Supplier<CountedEngine> refused = () -> {
            CountedEngine x = made.get();
            try {
                body.applyAsInt(x);
            } catch (RuntimeException e) {
                // Which exception it is has been looked at before; here it is what it leaves that counts.
            }
            return x;
        };
        dueSame(call + " refused", Answers.ofAll(refused), Answers.ofAll(made));
    }

    void dueSame(String when, List<String> got, List<String> want) {
        for (int k = 0; k < want.size(); k++) {
            if (!got.get(k).equals(want.get(k))) {
                fail(when + ": " + got.get(k) + ", due is: " + want.get(k));
            }
        }
    }

    void fail(String text) {
        wrong++;
        System.out.println(sentence.isEmpty() ? text : "\"" + sentence + "\": " + text);
    }

    void end() {
        System.out.println(wrong == 0 ? "all answers are as due" : wrong + " answers are not as due");
        if (wrong != 0) {
            System.exit(1);
        }
    }

    /** Compares every about from what 0 on with the numbers given. */
    void dueAbout(String when, CountedEngine x, boolean fused, int... want) {
        for (int what = 0; what < want.length; what++) {
            due(when + ": about(" + fused + ", " + what + ")", x.about(fused, what), want[what]);
        }
    }

    /** Compares the whole stack. */
    void dueStack(String when, CountedEngine x, boolean fused, int... want) {
        int height = x.about(fused, 1);
        due(when + ": about(" + fused + ", 1)", height, want.length);
        for (int k = 0; k < want.length && k < height; k++) {
            due(when + ": stack(" + fused + ", " + k + ")", x.stack(fused, k), want[k]);
        }
    }

    void dueBeginning(String when, CountedEngine x) {
        for (boolean fused : BOTH) {
            dueAbout(when, x, fused, 0, 0, 0, 0, 0, 0);
            for (int k = 0; k < 8; k++) {
                due(when + ": local(" + fused + ", " + k + ")", x.local(fused, k), 0);
            }
        }
    }

    /** Instructions between blanks, each a letter and, if it is not 0, its N: "P5 P-1 + O H". */
    static void addAll(CountedEngine x, String text) {
        for (String word : text.split(" ")) {
            x.add(word.charAt(0), word.length() > 1 ? Integer.parseInt(word.substring(1)) : 0);
        }
    }

    static CountedEngine engineOf(String text) {
        CountedEngine x = new CountedEngine();
        addAll(x, text);
        return x;
    }

    static CountedEngine fusedOf(String text) {
        CountedEngine x = engineOf(text);
        x.fuse();
        return x;
    }

    /** Both machines have gone as far as one call lets them. */
    static CountedEngine ranOf(String text) {
        CountedEngine x = fusedOf(text);
        x.run(PLAIN, 3000);
        x.run(FUSED, 3000);
        return x;
    }

    static String times(int count, String text) {
        return (text + " ").repeat(count).trim();
    }
}
