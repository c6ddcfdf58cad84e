/** Promise 12: what stays when the machine stops, and pieces that are thrown away for nothing. */
final class Promise12OrderTest {
    public static void main(String[] args) {
        haltStaysAndCounts();
        faultStaysAndDoesNotCount();
        faultDoesNothingElse();
        sameCodeThrowsAway();
        Check.finish();
    }

    private static void haltStaysAndCounts() {
        Lab lab = new Lab();
        lab.set(1, 1).set(2, 2).halt();
        lab.warden.start(0);
        Check.same("three done", lab.warden.run(3), 3);
        Check.same("stays at halt", lab.warden.count(0), 2);
        Check.same("stopped", lab.warden.count(1), 1);
        Check.same("counts as done", lab.warden.count(2), 3);
        Lab last = new Lab();
        last.warden.start(31);
        last.warden.run(5);
        Check.same("halt at 31 stays", last.warden.count(0), 31);
    }

    private static void faultStaysAndDoesNotCount() {
        Lab lab = new Lab();
        lab.set(1, 1).load(2, 253).halt();
        lab.warden.start(0);
        Check.refuses("fault", IndexOutOfBoundsException.class, () -> lab.warden.run(200));
        Check.same("stays at it", lab.warden.count(0), 1);
        Check.same("stopped", lab.warden.count(1), 1);
        Check.same("does not count as done", lab.warden.count(2), 1);
        Check.same("its piece is translated", lab.warden.count(8), 1);
        Check.same("what was done before stays", lab.warden.register(1, 0), 1);
        Check.refuses("then it is stopped", IllegalStateException.class, () -> lab.warden.run(1));
        lab.warden.start(2);
        Check.same("and can be started", lab.warden.run(1), 1);
    }

    private static void faultDoesNothingElse() {
        for (int op : new int[] {Lab.LOAD, Lab.LOAD_BYTE, Lab.STORE, Lab.STORE_BYTE}) {
            Lab lab = new Lab();
            lab.set(1, 256).set(2, 77).set(3, -1);
            lab.write(op, 2, 1, 3, op == Lab.LOAD || op == Lab.STORE ? -2 : 0);
            lab.warden.start(0);
            Check.refuses("fault of " + op, IndexOutOfBoundsException.class, () -> lab.warden.run(200));
            Check.same("d stays", lab.warden.register(2, 0), 77);
            Check.same("memory stays", lab.warden.memory(254, 0) + lab.warden.memory(255, 0), 0);
            Check.same("not known", lab.warden.memory(254, 2) + lab.warden.memory(255, 2), 0);
            Check.same("no finding", lab.warden.count(3), 0);
        }
    }

    private static void sameCodeThrowsAway() {
        Lab lab = new Lab();
        lab.set(1, 1).set(2, 2).halt();
        lab.go(0);
        Check.same("one there", lab.warden.count(9), 1);
        lab.at(1).set(2, 2);
        Check.same("thrown away", lab.warden.count(9), 0);
        Check.same("translated counts on", lab.warden.count(8), 1);
        lab.go(0);
        Check.same("translated anew", lab.warden.count(8), 2);
        lab.at(3).halt();
        Check.same("not in the piece", lab.warden.count(9), 1);
    }
}
