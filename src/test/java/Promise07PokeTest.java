import java.util.function.Consumer;

/** Promise 7: poke. */
final class Promise07PokeTest {
    public static void main(String[] args) {
        all().run();
    }

    static Sentences all() {
        return new Sentences().in("Promise 7: poke")
                .holds("Byte i (0 .. 255)", Promise07PokeTest::i0To255)
                .holds("becomes v (0 .. 255)", Promise07PokeTest::v0To255)
                .holds("and KNOWN,", Promise07PokeTest::known)
                .holds("whatever it is.", Promise07PokeTest::whateverItIs)
                .holds("throws IllegalArgumentException`:", Promise07PokeTest::refusedCallsLeaveAllAsItWas);
    }

    private static void i0To255() {
        Warden warden = new Warden();
        for (int i = 0; i < 256; i++) {
            warden.poke(i, 255 - i);
        }
        for (int i = 0; i < 256; i++) {
            Check.same("byte " + i, warden.memory(i, 0), 255 - i);
        }
        for (int i : new int[] {-1, 256, 257, Integer.MIN_VALUE, Integer.MAX_VALUE}) {
            Check.refuses("poke " + i, IllegalArgumentException.class, () -> new Warden().poke(i, 1));
        }
    }

    private static void v0To255() {
        Warden warden = new Warden();
        for (int v : new int[] {0, 1, 127, 128, 254, 255, 0}) {
            warden.poke(9, v);
            Check.same("becomes", warden.memory(9, 0), v);
        }
        Check.same("the one below stays", warden.memory(8, 0), 0);
        Check.same("the one above stays", warden.memory(10, 0), 0);
        for (int v : new int[] {-1, 256, 257, Integer.MIN_VALUE, Integer.MAX_VALUE}) {
            Check.refuses("poke " + v, IllegalArgumentException.class, () -> new Warden().poke(9, v));
        }
    }

    private static void known() {
        Warden warden = new Warden();
        for (int i : new int[] {64, 223, 224, 255}) {
            Check.same("byte " + i + " before", warden.memory(i, 2), 0);
            warden.poke(i, 0);
            Check.same("byte " + i, warden.memory(i, 2), 1);
        }
        Lab lab = new Lab().plant(20, 5, 0);
        lab.warden.poke(21, 0);
        Check.same("a byte of static that was not", lab.warden.memory(21, 2), 1);
        Check.same("the one beside it is not", lab.warden.memory(20, 2), 0);
    }

    private static void whateverItIs() {
        Lab lab = new Lab();
        lab.askFor(6);
        lab.askFor(4);
        lab.giveBack(84);
        int[] places = {0, 64, 68, 73, 74, 76, 84, 100, 224};
        for (int i : places) {
            int open = lab.warden.memory(i, 1);
            lab.warden.poke(i, 99);
            Check.same("byte " + i, lab.warden.memory(i, 0), 99);
            Check.same("byte " + i + " known", lab.warden.memory(i, 2), 1);
            Check.same("byte " + i + " is as open as before", lab.warden.memory(i, 1), open);
        }
        Check.same("no finding", lab.warden.count(3), 0);
        lab.warden.start(31);
        lab.warden.poke(1, 1);
        lab.warden.run(1);
        lab.warden.poke(2, 2);
        Check.same("running or stopped", lab.warden.memory(1, 0) + lab.warden.memory(2, 0), 3);
    }

    private static void refusedCallsLeaveAllAsItWas() {
        Consumer<Warden> some = warden -> new Lab(warden).withBlocks(4, 9).pokeWord(0, 68);
        int[][] wrong = {{-1, 1}, {256, 1}, {0, -1}, {0, 256}, {255, 256}, {68, -1}, {Integer.MIN_VALUE, 0},
            {0, Integer.MAX_VALUE}};
        for (int[] row : wrong) {
            View.staysAfterRefusal("poke " + row[0] + ", " + row[1], some, warden -> warden.poke(row[0], row[1]),
                    warden -> { });
        }
    }
}
