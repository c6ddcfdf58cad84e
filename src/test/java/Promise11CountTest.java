/** Promise 11: count. */
final class Promise11CountTest {
    public static void main(String[] args) {
        all().run();
    }

    static Sentences all() {
        return new Sentences().in("Promise 11: count")
                .holds("`int count(int what)`: The INSTRUCTION that the machine is at (0);", Promise11CountTest::place)
                .holds("1 if it's STOPPED (1);", Promise11CountTest::stopped)
                .holds("INSTRUCTIONS done (2);", Promise11CountTest::done)
                .holds("FINDINGS (3),", Promise11CountTest::findings)
                .holds("how often all of them (4);", Promise11CountTest::howOftenAll)
                .holds("BLOCKS LIVE (5),", Promise11CountTest::live)
                .holds("RESTING (6),", Promise11CountTest::resting)
                .holds("asked for and got (7);", Promise11CountTest::got)
                .holds("PIECES TRANSLATED (8),", Promise11CountTest::translated)
                .holds("there (9);", Promise11CountTest::there)
                .holds("else -1.", Promise11CountTest::anyOther);
    }

    private static void place() {
        Check.same("a new one", new Warden().count(0), 0);
        Lab lab = new Lab();
        lab.at(30).set(1, 1).set(1, 2).set(1, 3).halt();
        lab.warden.start(30);
        for (int due : new int[] {30, 31, 0, 1, 1}) {
            Check.same("at", lab.warden.count(0), due);
            Check.outcome(() -> lab.warden.run(1));
        }
    }

    private static void stopped() {
        Warden warden = new Warden();
        Check.same("a new one", warden.count(1), 1);
        warden.start(0);
        Check.same("started", warden.count(1), 0);
        warden.run(1);
        Check.same("halted", warden.count(1), 1);
    }

    private static void done() {
        Lab lab = new Lab();
        lab.write(Lab.EQUAL, 0, 0, 0, 0);
        Check.same("nothing", lab.warden.count(2), 0);
        int due = 0;
        lab.warden.start(0);
        for (int n : new int[] {1, 200, 200, 7}) {
            lab.warden.run(n);
            due += n;
            Check.same("after all runs", lab.warden.count(2), due);
        }
        lab.warden.start(1);
        Check.same("start does not clear it", lab.warden.count(2), due);
        lab.warden.run(200);
        Check.same("a halt", lab.warden.count(2), due + 1);
        Check.outcome(() -> lab.warden.run(200));
        Check.same("a refused run", lab.warden.count(2), due + 1);
    }

    private static Lab loads(int many) {
        Lab lab = new Lab();
        for (int i = 0; i < many; i++) {
            lab.load(1, 100 + i);
        }
        lab.halt();
        lab.go(0);
        return lab;
    }

    private static void findings() {
        for (int many : new int[] {0, 1, 23, 24, 25, 31}) {
            Lab lab = loads(many);
            Check.same("of " + many, lab.warden.count(3), Math.min(24, many));
            lab.go(0);
            Check.same("again", lab.warden.count(3), Math.min(24, many));
        }
    }

    private static void howOftenAll() {
        for (int many : new int[] {0, 1, 23, 24, 25, 31}) {
            Lab lab = loads(many);
            Check.same("of " + many, lab.warden.count(4), Math.min(24, many));
            lab.go(0);
            Check.same("again", lab.warden.count(4), 2 * Math.min(24, many));
        }
    }

    private static void live() {
        Lab lab = new Lab();
        Check.same("none", lab.warden.count(5), 0);
        for (int k = 1; k <= 11; k++) {
            lab.askFor(4);
            Check.same("asked " + k + " times", lab.warden.count(5), Math.min(10, k));
        }
        lab.giveBack(68);
        Check.same("one rests", lab.warden.count(5), 9);
        lab.giveBack(68);
        Check.same("given again", lab.warden.count(5), 9);
    }

    private static void resting() {
        Lab lab = new Lab();
        Check.same("none", lab.warden.count(6), 0);
        for (int k = 1; k <= 10; k++) {
            lab.askFor(4);
        }
        Check.same("all live", lab.warden.count(6), 0);
        for (int k = 1; k <= 10; k++) {
            lab.giveBack(56 + 12 * k);
            Check.same("given " + k, lab.warden.count(6), Math.min(3, k));
        }
        Check.same("none lives", lab.warden.count(5), 0);
    }

    private static void got() {
        Lab lab = new Lab();
        Check.same("none", lab.warden.count(7), 0);
        lab.askFor(0);
        lab.askFor(49);
        Check.same("asked for and not got", lab.warden.count(7), 0);
        for (int k = 1; k <= 12; k++) {
            lab.giveBack(lab.askFor(20));
            Check.same("those that are gone count", lab.warden.count(7), k);
        }
        Lab full = new Lab();
        for (int k = 1; k <= 12; k++) {
            full.askFor(4);
        }
        Check.same("ten and no more", full.warden.count(7), 10);
    }

    private static Lab everyPlace() {
        Lab lab = new Lab();
        for (int i = 0; i < 32; i++) {
            lab.warden.start(i);
            lab.warden.run(1);
        }
        return lab;
    }

    private static void translated() {
        Check.same("none", new Warden().count(8), 0);
        Lab lab = everyPlace();
        Check.same("one for each place", lab.warden.count(8), 32);
        lab.go(0);
        Check.same("not again", lab.warden.count(8), 32);
        lab.at(0).halt();
        Check.same("thrown away ones count", lab.warden.count(8), 32);
        lab.go(0);
        Check.same("translated anew", lab.warden.count(8), 33);
    }

    private static void there() {
        Check.same("none", new Warden().count(9), 0);
        Lab lab = everyPlace();
        Check.same("all there can be", lab.warden.count(9), 32);
        for (int i = 0; i < 32; i++) {
            lab.at(i).halt();
            Check.same("thrown away up to " + i, lab.warden.count(9), 31 - i);
        }
    }

    private static void anyOther() {
        Lab full = loads(24);
        for (int what : new int[] {-1, -2, 10, 11, Integer.MIN_VALUE, Integer.MAX_VALUE}) {
            Check.same("count " + what + " when new", new Warden().count(what), -1);
            Check.same("count " + what, full.warden.count(what), -1);
        }
    }
}
