/** A FusedEngine of which no test may make more calls than the document speaks of. */
final class CountedEngine {
    static final int MOST_CALLS = 512;

    private final FusedEngine engine = new FusedEngine();
    private int calls;

    private FusedEngine counted() {
        calls++;
        if (calls > MOST_CALLS) {
            throw new AssertionError("the test makes more than " + MOST_CALLS + " calls of one object");
        }
        return engine;
    }

    int calls() {
        return calls;
    }

    int add(int letter, int n) {
        return counted().add(letter, n);
    }

    /** Answers 0, so that it may stand where an answer is asked for. */
    int change(int place, int letter, int n) {
        counted().change(place, letter, n);
        return 0;
    }

    void clear() {
        counted().clear();
    }

    int fuse() {
        return counted().fuse();
    }

    int look(int place, int what) {
        return counted().look(place, what);
    }

    int run(boolean fused, int n) {
        return counted().run(fused, n);
    }

    void restart() {
        counted().restart();
    }

    int about(boolean fused, int what) {
        return counted().about(fused, what);
    }

    int stack(boolean fused, int k) {
        return counted().stack(fused, k);
    }

    int local(boolean fused, int k) {
        return counted().local(fused, k);
    }

    int out(boolean fused, int k) {
        return counted().out(fused, k);
    }
}
