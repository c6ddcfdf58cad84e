/**
 * The class under test with its calls counted: the document promises nothing of an object after its
 * 512th call, so no test may ask for more.
 */
final class Warden {
    static final int MOST_CALLS = 512;

    private final ShadowWarden inner = new ShadowWarden();
    private int calls = 0;

    int calls() {
        return calls;
    }

    private ShadowWarden called() {
        calls++;
        if (calls > MOST_CALLS) {
            throw new AssertionError("a test made more than " + MOST_CALLS + " calls on one object");
        }
        return inner;
    }

    void code(int i, int op, int d, int a, int b, int n) {
        called().code(i, op, d, a, b, n);
    }

    void start(int i) {
        called().start(i);
    }

    int run(int n) {
        return called().run(n);
    }

    int register(int r, int what) {
        return called().register(r, what);
    }

    int memory(int i, int what) {
        return called().memory(i, what);
    }

    void poke(int i, int v) {
        called().poke(i, v);
    }

    int finding(int k, int what) {
        return called().finding(k, what);
    }

    int block(int k, int what) {
        return called().block(k, what);
    }

    int leaks(int kind) {
        return called().leaks(kind);
    }

    int count(int what) {
        return called().count(what);
    }
}
