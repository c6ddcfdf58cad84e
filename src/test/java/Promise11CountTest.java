/** Promise 11: the counts. */
final class Promise11CountTest {
    public static void main(String[] args) {
        Lab lab = new Lab();
        lab.set(1, 8).ask(2, 1).ask(3, 1).ask(4, 1).give(3).give(3).give(3);
        lab.write(Lab.LOAD, 5, 3, 0, 0).write(Lab.CALL, 6, 0, 0, 20).at(20).halt();
        lab.go(0);
        counts("after a run", lab, 20, 1, 10, 3, 3, 2, 1, 3, 3, 3);
        lab.warden.start(4);
        counts("after start", lab, 4, 0, 10, 3, 3, 2, 1, 3, 3, 3);
        lab.warden.run(2);
        counts("in the middle", lab, 6, 0, 12, 5, 5, 2, 1, 3, 4, 4);
        lab.warden.start(4);
        lab.warden.run(1);
        counts("a finding again", lab, 5, 0, 13, 5, 6, 2, 1, 3, 4, 4);
        lab.warden.code(20, 0, 0, 0, 0, 0);
        counts("after code", lab, 5, 0, 13, 5, 6, 2, 1, 3, 4, 3);
        for (int what : new int[] {-1, 10, 11, Integer.MIN_VALUE, Integer.MAX_VALUE}) {
            Check.same("count " + what, lab.warden.count(what), -1);
        }
        Lab full = new Lab();
        for (int i = 0; i < 12; i++) {
            full.askFor(48);
        }
        Check.same("asked for and got", full.warden.count(7), 2);
        Check.finish();
    }

    private static void counts(String what, Lab lab, int... due) {
        for (int i = 0; i < due.length; i++) {
            Check.same(what + ", count " + i, lab.warden.count(i), due[i]);
        }
    }
}
