/** Promise 3: start puts the machine at an instruction, with clear registers. */
final class Promise03StartTest {
    public static void main(String[] args) {
        startPutsTheMachineThere();
        registersAreClearAndKnown();
        theRestStays();
        wrongPlacesAreRefused();
        Check.finish();
    }

    private static void startPutsTheMachineThere() {
        for (int i = 0; i < 32; i++) {
            ShadowWarden warden = new ShadowWarden();
            warden.start(i);
            Check.same("at " + i, warden.count(0), i);
            Check.same("not stopped", warden.count(1), 0);
        }
    }

    private static void registersAreClearAndKnown() {
        Lab lab = new Lab();
        for (int r = 1; r < 8; r++) {
            lab.pokeWord(Lab.STACK, 77);
            lab.load(r, Lab.STACK + 4);
        }
        lab.set(1, 9).halt();
        lab.go(0);
        Check.same("unknown before", lab.warden.register(7, 1), 0);
        lab.warden.start(5);
        for (int r = 0; r < 8; r++) {
            Check.same("register " + r, lab.warden.register(r, 0), 0);
            Check.same("register " + r + " known", lab.warden.register(r, 1), 15);
        }
    }

    private static void theRestStays() {
        Lab lab = new Lab();
        lab.set(1, 12).ask(2, 1).write(Lab.LOAD, 3, 2, 0, -4).store(1, 8).halt();
        lab.go(0);
        lab.warden.start(0);
        Check.same("done", lab.warden.count(2), 5);
        Check.same("findings", lab.warden.count(3), 1);
        Check.same("blocks", lab.warden.count(5), 1);
        Check.same("pieces", lab.warden.count(9), 1);
        Check.same("memory", lab.warden.memory(8, 0), 12);
        Check.same("open block", lab.warden.memory(68, 1), 1);
    }

    private static void wrongPlacesAreRefused() {
        ShadowWarden warden = new ShadowWarden();
        for (int i : new int[] {-1, 32, Integer.MIN_VALUE, Integer.MAX_VALUE}) {
            Check.refuses("start " + i, IllegalArgumentException.class, () -> warden.start(i));
        }
        Check.same("still stopped", warden.count(1), 1);
        Lab lab = new Lab();
        lab.set(1, 5).halt();
        lab.go(0);
        Check.refuses("start 32", IllegalArgumentException.class, () -> lab.warden.start(32));
        Check.same("registers stay", lab.warden.register(1, 0), 5);
        Check.same("place stays", lab.warden.count(0), 1);
    }
}
