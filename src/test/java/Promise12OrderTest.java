/** Promise 12: order and limits. */
final class Promise12OrderTest {
    public static void main(String[] args) {
        all().run();
    }

    static Sentences all() {
        return new Sentences().in("Promise 12: Order and limits")
                .holds("HALT: the machine stays at that INSTRUCTION (count 0),", Promise12OrderTest::haltStays)
                .holds("which counts as done.", Promise12OrderTest::haltCounts)
                .holds("With a FAULT it stays at its INSTRUCTION, too,", Promise12OrderTest::faultStays)
                .holds("which does not count as done (count 2).", Promise12OrderTest::faultDoesNotCount)
                .holds("code: the PIECES with INSTRUCTION i are thrown away also if it becomes what it was.",
                        Promise12OrderTest::sameCodeThrowsAway);
    }

    private static void haltStays() {
        for (int i = 0; i < 32; i++) {
            Lab lab = new Lab();
            lab.go(i);
            Check.same("halt at " + i, lab.warden.count(0), i);
        }
        Lab lab = new Lab();
        lab.set(1, 1).set(2, 2).halt();
        lab.warden.start(0);
        lab.warden.run(3);
        Check.same("behind others, as the last one allowed", lab.warden.count(0), 2);
    }

    private static void haltCounts() {
        Lab lab = new Lab();
        lab.set(1, 1).halt();
        lab.go(0);
        Check.same("two", lab.warden.count(2), 2);
        lab.go(1);
        Check.same("three", lab.warden.count(2), 3);
    }

    private static Lab faultAt(int i, int op) {
        Lab lab = new Lab();
        lab.at(i).set(1, 1).write(op, 2, 0, 1, -1).set(3, 3);
        lab.warden.start(i);
        Check.refuses("fault", IndexOutOfBoundsException.class, () -> lab.warden.run(200));
        return lab;
    }

    private static void faultStays() {
        for (int op = Lab.LOAD; op <= Lab.STORE_BYTE; op++) {
            for (int i : new int[] {0, 8, 29, 30, 31}) {
                Lab lab = faultAt(i, op);
                Check.same("at", lab.warden.count(0), (i + 1) % 32);
                Check.same("stopped", lab.warden.count(1), 1);
            }
        }
    }

    private static void faultDoesNotCount() {
        for (int op = Lab.LOAD; op <= Lab.STORE_BYTE; op++) {
            Lab lab = faultAt(4, op);
            Check.same("only the one before it", lab.warden.count(2), 1);
            lab.warden.start(5);
            Check.refuses("again", IndexOutOfBoundsException.class, () -> lab.warden.run(1));
            Check.same("still", lab.warden.count(2), 1);
        }
    }

    private static void sameCodeThrowsAway() {
        Lab lab = new Lab();
        lab.set(1, 1).set(2, 2).halt();
        lab.go(0);
        lab.go(1);
        Check.same("two there", lab.warden.count(9), 2);
        lab.at(3).halt();
        Check.same("no piece has 3", lab.warden.count(9), 2);
        lab.at(0).set(1, 1);
        Check.same("one had 0", lab.warden.count(9), 1);
        lab.go(0);
        Check.same("translated anew", lab.warden.count(8), 3);
        lab.at(2).halt();
        Check.same("both had 2", lab.warden.count(9), 0);
        Check.same("translated stays", lab.warden.count(8), 3);
        Lab untouched = new Lab();
        untouched.go(9);
        untouched.warden.code(9, 0, 0, 0, 0, 0);
        Check.same("what it was at first", untouched.warden.count(9), 0);
    }
}
