import java.util.function.Consumer;

/** Promise 3: start. */
final class Promise03StartTest {
    public static void main(String[] args) {
        all().run();
    }

    static Sentences all() {
        return new Sentences().in("Promise 3: start")
                .holds("The machine is at INSTRUCTION i", Promise03StartTest::atInstructionI)
                .holds("and STOPPED no more;", Promise03StartTest::stoppedNoMore)
                .holds("all REGISTERS are 0 and KNOWN.", Promise03StartTest::registersAre0AndKnown)
                .holds("all REGISTERS are 0 and KNOWN.", Promise03StartTest::theRestStays)
                .holds("throws IllegalArgumentException`:", Promise03StartTest::refusedCallsLeaveAllAsItWas);
    }

    private static void atInstructionI() {
        for (int i = 0; i < 32; i++) {
            Warden warden = new Warden();
            warden.start(i);
            Check.same("at " + i, warden.count(0), i);
        }
        for (int i : new int[] {-1, 32, 33, Integer.MIN_VALUE, Integer.MAX_VALUE}) {
            Check.refuses("start " + i, IllegalArgumentException.class, () -> new Warden().start(i));
        }
    }

    private static void stoppedNoMore() {
        Lab lab = new Lab();
        lab.load(1, 253).halt();
        lab.warden.start(1);
        Check.same("when it was new", lab.warden.count(1), 0);
        lab.warden.run(1);
        lab.warden.start(0);
        Check.same("when it had halted", lab.warden.count(1), 0);
        Check.refuses("fault", IndexOutOfBoundsException.class, () -> lab.warden.run(1));
        lab.warden.start(1);
        Check.same("when it had faulted", lab.warden.count(1), 0);
        lab.warden.start(1);
        Check.same("when it was not stopped", lab.warden.count(1), 0);
        Check.same("it runs", lab.warden.run(1), 1);
    }

    private static void registersAre0AndKnown() {
        Lab lab = new Lab();
        for (int r = 1; r < 8; r++) {
            lab.load(r, 62);
        }
        lab.pokeWord(62, -1).plant(62, -1, 5);
        lab.at(7).halt();
        lab.go(0);
        Check.same("before", lab.warden.register(7, 0), -1);
        Check.same("known before", lab.warden.register(7, 1), 5);
        lab.warden.start(5);
        for (int r = 0; r < 8; r++) {
            Check.same("R" + r, lab.warden.register(r, 0), 0);
            Check.same("R" + r + " known", lab.warden.register(r, 1), 15);
        }
    }

    /** Leaves something of everything: a block, a finding, a piece, a stored word, registers. */
    private static void program(Warden warden) {
        warden.code(0, Lab.SET, 1, 0, 0, 5);
        warden.code(1, Lab.ASK, 2, 1, 0, 0);
        warden.code(2, Lab.LOAD, 3, 2, 0, 2);
        warden.code(3, Lab.STORE, 0, 0, 3, 20);
        warden.code(4, Lab.CALL, 2, 0, 0, 6);
        warden.start(0);
        warden.run(5);
    }

    private static void theRestStays() {
        String once = View.after(warden -> {
            program(warden);
            warden.start(6);
        });
        String twice = View.after(warden -> {
            program(warden);
            warden.start(31);
            warden.start(6);
        });
        Check.same("a start more", twice, once);
        Lab lab = new Lab();
        program(lab.warden);
        lab.warden.start(9);
        int[] due = {9, 0, 5, 1, 1, 1, 0, 1, 1, 1};
        for (int what = 0; what < 10; what++) {
            Check.same("count " + what, lab.warden.count(what), due[what]);
        }
        Check.same("what was stored stays", lab.warden.memory(20, 2), 0);
        Check.same("the block stays open", lab.warden.memory(68, 1), 1);
    }

    private static void refusedCallsLeaveAllAsItWas() {
        Consumer<Warden> nothing = warden -> { };
        for (int i : new int[] {-1, 32, Integer.MIN_VALUE, Integer.MAX_VALUE}) {
            Consumer<Warden> call = warden -> warden.start(i);
            View.staysAfterRefusal("start " + i + " when new", nothing, call, nothing);
            View.staysAfterRefusal("start " + i, Promise03StartTest::program, call, nothing);
            View.staysAfterRefusal("start " + i + ", run on,", Promise03StartTest::program, call, warden -> warden.run(2));
        }
    }
}
