import java.util.function.Consumer;

/** Promise 4: run; what the instructions do is told under the terms. */
final class Promise04RunTest {
    public static void main(String[] args) {
        all().run();
    }

    static Sentences all() {
        return new Sentences().in("Promise 4: run")
                .holds("Does at most n INSTRUCTIONS (1 .. 200),", Promise04RunTest::from1To200)
                .holds("until it STOPS.", Promise04RunTest::untilItStops)
                .holds("It's STOPPED: IllegalStateException;", Promise04RunTest::stopped)
                .holds("FAULT: IndexOutOfBoundsException.", Promise04RunTest::fault)
                .holds("Answers how many (HALT is one).", Promise04RunTest::howMany)
                .holds("throws IllegalArgumentException, IllegalStateException, IndexOutOfBoundsException`:",
                        Promise04RunTest::refusedCallsLeaveAllAsItWas);
    }

    private static Lab endless() {
        Lab lab = new Lab();
        lab.write(Lab.MOVE, 1, 1, 0, 1).write(Lab.EQUAL, 0, 0, 0, 0);
        lab.warden.start(0);
        return lab;
    }

    private static void from1To200() {
        for (int n : new int[] {1, 2, 199, 200}) {
            Lab lab = endless();
            Check.same("run " + n, lab.warden.run(n), n);
            Check.same("done", lab.warden.count(2), n);
            Check.same("rounds", lab.warden.register(1, 0), (n + 1) / 2);
            Check.same("not stopped", lab.warden.count(1), 0);
        }
        for (int n : new int[] {0, -1, 201, 202, Integer.MIN_VALUE, Integer.MAX_VALUE}) {
            Check.refuses("run " + n, IllegalArgumentException.class, () -> endless().warden.run(n));
            Check.refuses("run " + n + " when stopped", IllegalArgumentException.class, () -> new Warden().run(n));
        }
    }

    private static void untilItStops() {
        Lab lab = new Lab();
        lab.set(1, 1).set(2, 2).halt().set(3, 3);
        lab.warden.start(0);
        Check.same("one before the halt", lab.warden.run(2), 2);
        Check.same("not stopped", lab.warden.count(1), 0);
        Check.same("the halt alone", lab.warden.run(200), 1);
        Check.same("stopped", lab.warden.count(1), 1);
        Check.same("nothing behind it", lab.warden.register(3, 0), 0);
    }

    private static void stopped() {
        Lab lab = new Lab();
        lab.set(1, 1).halt().load(1, 256);
        for (int n : new int[] {1, 200}) {
            Check.refuses("when new", IllegalStateException.class, () -> new Warden().run(n));
            lab.warden.start(0);
            lab.warden.run(2);
            Check.refuses("when halted", IllegalStateException.class, () -> lab.warden.run(n));
            Check.refuses("still", IllegalStateException.class, () -> lab.warden.run(n));
            lab.warden.start(2);
            Check.refuses("the fault", IndexOutOfBoundsException.class, () -> lab.warden.run(n));
            Check.refuses("when faulted", IllegalStateException.class, () -> lab.warden.run(n));
        }
        lab.warden.start(0);
        Check.same("started again", lab.warden.run(1), 1);
    }

    private static void fault() {
        Lab lab = new Lab();
        lab.set(1, 1).set(2, 2).load(3, -1).halt();
        lab.warden.start(0);
        Check.same("not yet", lab.warden.run(2), 2);
        Check.refuses("as the first", IndexOutOfBoundsException.class, () -> lab.warden.run(1));
        lab.warden.start(0);
        Check.refuses("as the last", IndexOutOfBoundsException.class, () -> lab.warden.run(3));
        lab.warden.start(0);
        Check.refuses("in the middle", IndexOutOfBoundsException.class, () -> lab.warden.run(200));
        lab.warden.start(3);
        Check.same("the next run is a run like any other", lab.warden.run(200), 1);
    }

    private static void howMany() {
        Check.same("all that were asked for", endless().warden.run(77), 77);
        Lab lab = new Lab();
        lab.set(1, 1).set(2, 2).halt();
        for (int first = 0; first < 3; first++) {
            lab.warden.start(first);
            Check.same("from " + first, lab.warden.run(200), 3 - first);
        }
        lab.warden.start(0);
        Check.same("halt as the last one allowed", lab.warden.run(3), 3);
        Check.same("stopped", lab.warden.count(1), 1);
    }

    private static void refusedCallsLeaveAllAsItWas() {
        Consumer<Warden> running = warden -> {
            warden.code(0, Lab.STORE, 0, 0, 1, 100);
            warden.code(1, Lab.MOVE, 1, 1, 0, 3);
            warden.code(2, Lab.EQUAL, 0, 0, 0, 0);
            warden.start(0);
            warden.run(4);
        };
        Consumer<Warden> halted = running.andThen(warden -> {
            warden.start(9);
            warden.run(1);
        });
        Consumer<Warden> nothing = warden -> { };
        for (int n : new int[] {0, -1, 201, Integer.MIN_VALUE, Integer.MAX_VALUE}) {
            View.staysAfterRefusal("run " + n, running, warden -> warden.run(n), nothing);
            View.staysAfterRefusal("run " + n + ", run on,", running, warden -> warden.run(n), warden -> warden.run(5));
        }
        for (int n : new int[] {0, 1, 200, 201}) {
            View.staysAfterRefusal("run " + n + " when halted", halted, warden -> warden.run(n), nothing);
            View.staysAfterRefusal("run " + n + " when new", nothing, warden -> warden.run(n), nothing);
        }
    }
}
