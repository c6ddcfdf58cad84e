import java.util.function.Consumer;

/** Promise 6: memory. */
final class Promise06MemoryTest {
    private static final int[] OUTSIDE = {-1, 256, 257, Integer.MIN_VALUE, Integer.MAX_VALUE};

    public static void main(String[] args) {
        all().run();
    }

    static Sentences all() {
        return new Sentences().in("Promise 6: memory")
                .holds("Byte i (0 .. 255),", Promise06MemoryTest::i0To255)
                .holds("0 to 255 (what 0);", Promise06MemoryTest::from0To255)
                .holds("1 OPEN (1);", Promise06MemoryTest::openOrNot)
                .holds("1 KNOWN (2).", Promise06MemoryTest::knownOrNot)
                .holds("throws IllegalArgumentException`:", Promise06MemoryTest::otherWhatsAreRefused);
    }

    private static void i0To255() {
        Warden warden = new Warden();
        for (int i = 0; i < 256; i += 51) {
            warden.poke(i, i / 51 + 1);
        }
        for (int i = 0; i < 256; i++) {
            Check.same("byte " + i, warden.memory(i, 0), i % 51 == 0 ? i / 51 + 1 : 0);
        }
        for (int i : OUTSIDE) {
            for (int what = 0; what <= 2; what++) {
                int asked = what;
                Check.refuses("byte " + i, IllegalArgumentException.class, () -> warden.memory(i, asked));
            }
        }
    }

    private static void from0To255() {
        Lab lab = new Lab();
        lab.set(1, 0xFF80_7F00).store(1, 8).halt();
        lab.go(0);
        int[] due = {0, 127, 128, 255};
        for (int i = 0; i < 4; i++) {
            Check.same("stored byte " + i + " has no sign", lab.warden.memory(8 + i, 0), due[i]);
        }
    }

    private static void openOrNot() {
        Lab lab = new Lab().withBlocks(5);
        int[][] rows = {{0, 1}, {63, 1}, {64, 0}, {67, 0}, {68, 1}, {72, 1}, {73, 0}, {223, 0}, {224, 1}, {255, 1}};
        for (int[] row : rows) {
            Check.same("byte " + row[0], lab.warden.memory(row[0], 1), row[1]);
        }
    }

    private static void knownOrNot() {
        Lab lab = new Lab().plant(20, 0, 5).withBlocks(5);
        lab.warden.poke(70, 0);
        int[][] rows = {{0, 1}, {20, 1}, {21, 0}, {22, 1}, {23, 0}, {63, 1}, {64, 0}, {69, 0}, {70, 1}, {71, 0}, {224, 0},
            {255, 0}};
        for (int[] row : rows) {
            Check.same("byte " + row[0], lab.warden.memory(row[0], 2), row[1]);
        }
    }

    private static void otherWhatsAreRefused() {
        for (int what : new int[] {-1, 3, 4, Integer.MIN_VALUE, Integer.MAX_VALUE}) {
            for (int i : new int[] {-1, 0, 255, 256}) {
                Check.refuses("byte " + i + ", what " + what, IllegalArgumentException.class,
                        () -> new Warden().memory(i, what));
            }
        }
        Consumer<Warden> some = warden -> new Lab(warden).withBlocks(4);
        View.staysAfterRefusal("memory 256", some, warden -> warden.memory(256, 0), warden -> { });
        View.staysAfterRefusal("what 3", some, warden -> warden.memory(1, 3), warden -> { });
    }
}
