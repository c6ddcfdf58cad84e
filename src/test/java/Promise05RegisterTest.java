import java.util.function.Consumer;

/** Promise 5: register. */
final class Promise05RegisterTest {
    private static final int[] OUTSIDE = {-1, 8, 9, Integer.MIN_VALUE, Integer.MAX_VALUE};

    public static void main(String[] args) {
        all().run();
    }

    static Sentences all() {
        return new Sentences().in("Promise 5: register")
                .holds("REGISTER r (0 .. 7;", Promise05RegisterTest::r0To7)
                .holds("what 0),", Promise05RegisterTest::what0IsTheValue)
                .holds("or which of its bytes are KNOWN, as bits (what 1).", Promise05RegisterTest::what1IsTheKnownBits)
                .holds("throws IllegalArgumentException`:", Promise05RegisterTest::otherWhatsAreRefused);
    }

    private static void r0To7() {
        Lab lab = new Lab();
        for (int r = 0; r < 8; r++) {
            lab.set(r, -100 * r);
        }
        lab.halt();
        lab.go(0);
        for (int r = 0; r < 8; r++) {
            Check.same("R" + r, lab.warden.register(r, 0), -100 * r);
            Check.same("R" + r + " known", lab.warden.register(r, 1), 15);
        }
        for (int r : OUTSIDE) {
            for (int what = 0; what <= 1; what++) {
                int asked = what;
                Check.refuses("R" + r, IllegalArgumentException.class, () -> lab.warden.register(r, asked));
            }
        }
    }

    private static void what0IsTheValue() {
        for (int value : new int[] {Integer.MIN_VALUE, -1, 0, 1, 255, 256, Integer.MAX_VALUE}) {
            for (int known : new int[] {0, 15}) {
                Lab lab = new Lab().plant(Lab.STACK, value, known);
                lab.at(0).load(1, Lab.STACK).halt();
                lab.go(0);
                Check.same("known or not", lab.warden.register(1, 0), value);
            }
        }
    }

    private static void what1IsTheKnownBits() {
        for (int known = 0; known < 16; known++) {
            Lab lab = new Lab().plant(Lab.STACK, -1, known);
            lab.at(0).load(5, Lab.STACK).halt();
            lab.go(0);
            Check.same("bits, the lowest byte's first", lab.warden.register(5, 1), known);
        }
    }

    private static void otherWhatsAreRefused() {
        for (int what : new int[] {-1, 2, 3, Integer.MIN_VALUE, Integer.MAX_VALUE}) {
            for (int r : new int[] {-1, 0, 7, 8}) {
                Check.refuses("R" + r + ", what " + what, IllegalArgumentException.class,
                        () -> new Warden().register(r, what));
            }
        }
        Consumer<Warden> some = warden -> new Lab(warden).withBlocks(4);
        View.staysAfterRefusal("register 8", some, warden -> warden.register(8, 0), warden -> { });
        View.staysAfterRefusal("what 2", some, warden -> warden.register(1, 2), warden -> { });
    }
}
