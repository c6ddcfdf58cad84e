/** Promise 1: all as at first, at instruction 0, stopped. */
final class Promise01NewObjectTest {
    public static void main(String[] args) {
        ShadowWarden warden = new ShadowWarden();
        memoryIsAsAtFirst(warden);
        registersAreAsAtFirst(warden);
        countsAreAsAtFirst(warden);
        codeIsAllHalt();
        objectsAreApart();
        Check.finish();
    }

    private static void memoryIsAsAtFirst(ShadowWarden warden) {
        for (int i = 0; i < 256; i++) {
            Check.same("value of byte " + i, warden.memory(i, 0), 0);
            Check.same("byte " + i + " open", warden.memory(i, 1), i < 64 || i >= 224 ? 1 : 0);
            Check.same("byte " + i + " known", warden.memory(i, 2), i < 64 ? 1 : 0);
        }
    }

    private static void registersAreAsAtFirst(ShadowWarden warden) {
        for (int r = 0; r < 8; r++) {
            Check.same("register " + r, warden.register(r, 0), 0);
            Check.same("register " + r + " known", warden.register(r, 1), 15);
        }
    }

    private static void countsAreAsAtFirst(ShadowWarden warden) {
        for (int what = 0; what < 10; what++) {
            Check.same("count " + what, warden.count(what), what == 1 ? 1 : 0);
        }
        for (int kind = 1; kind <= 4; kind++) {
            Check.same("leaks " + kind, warden.leaks(kind), 0);
        }
        Check.refuses("run when new", IllegalStateException.class, () -> warden.run(1));
        Check.refuses("finding when new", java.util.NoSuchElementException.class, () -> warden.finding(0, 0));
        Check.refuses("block when new", java.util.NoSuchElementException.class, () -> warden.block(1, 0));
    }

    private static void codeIsAllHalt() {
        for (int i = 0; i < 32; i++) {
            ShadowWarden warden = new ShadowWarden();
            warden.start(i);
            Check.same("run at " + i, warden.run(200), 1);
            Check.same("stays at " + i, warden.count(0), i);
            Check.same("stopped at " + i, warden.count(1), 1);
        }
    }

    private static void objectsAreApart() {
        ShadowWarden one = new ShadowWarden();
        ShadowWarden other = new ShadowWarden();
        one.poke(100, 7);
        one.start(3);
        Check.same("the other's byte", other.memory(100, 0), 0);
        Check.same("the other's place", other.count(0), 0);
    }
}
