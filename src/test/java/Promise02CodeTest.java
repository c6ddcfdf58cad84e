import java.util.function.Consumer;

/** Promise 2: code. */
final class Promise02CodeTest {
    private static final int LEAST = Integer.MIN_VALUE;
    private static final int GREATEST = Integer.MAX_VALUE;

    public static void main(String[] args) {
        all().run();
    }

    static Sentences all() {
        return new Sentences().in("Promise 2: code")
                .holds("INSTRUCTION i (0 .. 31)", Promise02CodeTest::i0To31)
                .holds("becomes this;", Promise02CodeTest::becomesThis)
                .holds("becomes this;", Promise02CodeTest::theRestStays)
                .holds("op 0 .. 18,", Promise02CodeTest::op0To18)
                .holds("d, a, b 0 .. 7.", Promise02CodeTest::d0To7)
                .holds("d, a, b 0 .. 7.", Promise02CodeTest::a0To7)
                .holds("d, a, b 0 .. 7.", Promise02CodeTest::b0To7)
                .holds("throws IllegalArgumentException`:", Promise02CodeTest::refusedCallsLeaveAllAsItWas);
    }

    private static void refused(String what, int i, int op, int d, int a, int b) {
        Check.refuses(what, IllegalArgumentException.class, () -> new Warden().code(i, op, d, a, b, 0));
    }

    private static void i0To31() {
        for (int i : new int[] {0, 1, 30, 31}) {
            Lab lab = new Lab();
            lab.at(i).set(1, 7);
            lab.warden.start(i);
            lab.warden.run(1);
            Check.same("instruction " + i, lab.warden.register(1, 0), 7);
        }
        for (int i : new int[] {-1, 32, 33, LEAST, GREATEST}) {
            refused("instruction " + i, i, 1, 1, 1, 1);
        }
    }

    /** Each of the five numbers of the new one counts, and none of the old one's. */
    private static void becomesThis() {
        Lab lab = new Lab();
        lab.set(1, 40).set(2, 50).set(3, 60).write(Lab.ADD, 4, 1, 2, 9).halt();
        lab.go(0);
        Check.same("at first", lab.warden.register(4, 0), 90);
        lab.at(3).write(Lab.SUBTRACT, 4, 1, 2, 9);
        lab.go(0);
        Check.same("another op", lab.warden.register(4, 0), -10);
        lab.at(3).write(Lab.SUBTRACT, 5, 1, 2, 9);
        lab.go(0);
        Check.same("another d", lab.warden.register(5, 0), -10);
        Check.same("not the old one", lab.warden.register(4, 0), 0);
        lab.at(3).write(Lab.SUBTRACT, 5, 3, 2, 9);
        lab.go(0);
        Check.same("another a", lab.warden.register(5, 0), 10);
        lab.at(3).write(Lab.SUBTRACT, 5, 3, 1, 9);
        lab.go(0);
        Check.same("another b", lab.warden.register(5, 0), 20);
        for (int n : new int[] {LEAST, -1, 0, GREATEST}) {
            lab.at(3).write(Lab.MOVE, 5, 0, 1, n);
            lab.go(0);
            Check.same("another n", lab.warden.register(5, 0), n);
        }
    }

    private static void program(Warden warden) {
        warden.code(0, Lab.SET, 1, 0, 0, 5);
        warden.code(1, Lab.ASK, 2, 1, 0, 0);
        warden.code(2, Lab.LOAD, 3, 2, 0, 2);
        warden.code(3, Lab.GIVE, 0, 2, 0, 0);
        warden.code(4, Lab.GIVE, 0, 2, 0, 0);
        warden.code(5, Lab.EQUAL, 0, 0, 0, 7);
        warden.start(0);
        warden.run(5);
    }

    private static void theRestStays() {
        String before = View.after(Promise02CodeTest::program);
        String after = View.after(warden -> {
            program(warden);
            warden.code(9, Lab.STORE, 1, 2, 3, 4);
            warden.code(31, Lab.HALT, 0, 0, 0, 0);
        });
        Check.same("where no piece has it, nothing is seen", after, before);
        Lab lab = new Lab();
        lab.set(1, 5).set(2, 6).set(3, 7).halt();
        lab.warden.start(0);
        lab.warden.run(1);
        lab.at(1).set(2, 60);
        Check.same("still at 1", lab.warden.count(0), 1);
        Check.same("still not stopped", lab.warden.count(1), 0);
        Check.same("goes on", lab.warden.run(200), 3);
        Check.same("with the new one", lab.warden.register(2, 0), 60);
    }

    private static void op0To18() {
        for (int op = 0; op <= 18; op++) {
            int taken = op;
            Check.same("op " + op, Check.outcome(() -> new Warden().code(0, taken, 0, 0, 0, 0)), "0");
        }
        Lab lab = new Lab();
        lab.withBlocks(4).at(0).set(1, 68).write(18, 0, 1, 0, 0).write(0, 0, 0, 0, 0);
        Check.same("op 0 is the last to be done", lab.go(0), 3);
        Check.same("op 18 gives back", lab.warden.count(6), 1);
        for (int op : new int[] {-1, 19, 20, LEAST, GREATEST}) {
            refused("op " + op, 0, op, 1, 1, 1);
        }
    }

    private static void d0To7() {
        for (int d = 0; d < 8; d++) {
            Lab lab = new Lab();
            lab.write(Lab.SET, d, 7, 7, 11).halt();
            lab.go(0);
            Check.same("d " + d, lab.warden.register(d, 0), d == 0 ? 0 : 11);
        }
        for (int d : new int[] {-1, 8, LEAST, GREATEST}) {
            for (int op = 0; op <= 18; op++) {
                refused("d " + d + " of op " + op, 0, op, d, 1, 1);
            }
        }
    }

    private static Lab withValues() {
        Lab lab = new Lab();
        for (int r = 0; r < 8; r++) {
            lab.set(r, 10 * r);
        }
        return lab;
    }

    private static void a0To7() {
        for (int a = 0; a < 8; a++) {
            Lab lab = withValues();
            lab.write(Lab.MOVE, 1, a, 7, 1).halt();
            lab.go(0);
            Check.same("a " + a, lab.warden.register(1, 0), 10 * a + 1);
        }
        for (int a : new int[] {-1, 8, LEAST, GREATEST}) {
            for (int op = 0; op <= 18; op++) {
                refused("a " + a + " of op " + op, 0, op, 1, a, 1);
            }
        }
    }

    private static void b0To7() {
        for (int b = 0; b < 8; b++) {
            Lab lab = withValues();
            lab.write(Lab.OR, 1, 0, b, 1).halt();
            lab.go(0);
            Check.same("b " + b, lab.warden.register(1, 0), 10 * b);
        }
        for (int b : new int[] {-1, 8, LEAST, GREATEST}) {
            for (int op = 0; op <= 18; op++) {
                refused("b " + b + " of op " + op, 0, op, 1, 1, b);
            }
        }
    }

    private static void refusedCallsLeaveAllAsItWas() {
        int[][] wrong = {{-1, 1, 1, 1, 1}, {32, 1, 1, 1, 1}, {0, -1, 1, 1, 1}, {0, 19, 1, 1, 1}, {2, 1, -1, 1, 1},
            {2, 1, 8, 1, 1}, {5, 1, 1, -1, 1}, {5, 1, 1, 8, 1}, {0, 1, 1, 1, -1}, {0, 1, 1, 1, 8}};
        Consumer<Warden> then = warden -> {
            Check.outcome(() -> warden.run(200));
            warden.start(0);
            warden.run(200);
        };
        for (int[] row : wrong) {
            String what = "code" + java.util.Arrays.toString(row);
            Consumer<Warden> call = warden -> warden.code(row[0], row[1], row[2], row[3], row[4], 9);
            View.staysAfterRefusal(what, Promise02CodeTest::program, call, warden -> { });
            View.staysAfterRefusal(what + ", run on,", Promise02CodeTest::program, call, then);
        }
    }
}
