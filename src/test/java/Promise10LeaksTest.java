import java.util.function.Consumer;

/** Promise 10: leaks. */
final class Promise10LeaksTest {
    public static void main(String[] args) {
        all().run();
    }

    static Sentences all() {
        return new Sentences().in("Promise 10: leaks")
                .holds("How many LIVE BLOCKS a LEAK SCAN", Promise10LeaksTest::nothingToScan)
                .holds("How many LIVE BLOCKS a LEAK SCAN", Promise10LeaksTest::restingAreNotCounted)
                .holds("now finds", Promise10LeaksTest::now)
                .holds("HELD (1),", () -> allOf(ten().pokeWord(0, 176), "10 0 0 0"))
                .holds("DOUBTFUL (2),", () -> allOf(ten().pokeWord(0, 177), "0 10 0 0"))
                .holds("LOST (3),", () -> allOf(withBlocks(10), "0 0 10 0"))
                .holds("DRAGGED (4).", () -> allOf(ten(), "0 0 1 9"))
                .holds("HELD (1), DOUBTFUL (2), LOST (3), DRAGGED (4).", Promise10LeaksTest::oneOfEach)
                .holds("throws IllegalArgumentException`:", Promise10LeaksTest::otherKindsAreRefused);
    }

    private static Lab withBlocks(int many) {
        Lab lab = new Lab();
        for (int k = 0; k < many; k++) {
            lab.askFor(4);
        }
        return lab;
    }

    /** Each leads to the one before it; the last is at 176. */
    private static Lab ten() {
        Lab lab = withBlocks(10);
        for (int k = 1; k < 10; k++) {
            lab.pokeWord(68 + 12 * k, 68 + 12 * (k - 1));
        }
        return lab;
    }

    private static void allOf(Lab lab, String due) {
        Check.same("ten blocks", lab.leaks(), due);
    }

    private static void nothingToScan() {
        Check.same("a new object", new Lab().leaks(), "0 0 0 0");
        Check.same("words that lead nowhere", new Lab().pokeWord(0, 68).leaks(), "0 0 0 0");
        Lab lab = withBlocks(3).pokeWord(0, 68);
        lab.giveBack(68).giveBack(80).giveBack(92);
        Check.same("all of them rest", lab.leaks(), "0 0 0 0");
    }

    private static void restingAreNotCounted() {
        Lab lab = withBlocks(4).pokeWord(0, 68).pokeWord(4, 80);
        Check.same("before", lab.leaks(), "2 0 2 0");
        lab.giveBack(68);
        Check.same("a held one rests", lab.leaks(), "1 0 2 0");
        lab.giveBack(92);
        Check.same("a lost one rests", lab.leaks(), "1 0 1 0");
        Lab chain = ten().pokeWord(0, 177);
        chain.giveBack(68).giveBack(80).giveBack(92).giveBack(104);
        Check.same("three rest and one is gone", chain.leaks(), "0 6 0 0");
    }

    private static void now() {
        Lab lab = withBlocks(2);
        Check.same("at first", lab.leaks(), "0 0 2 0");
        lab.pokeWord(0, 68);
        Check.same("a word leads", lab.leaks(), "1 0 1 0");
        lab.pokeWord(68, 80);
        Check.same("on to the other", lab.leaks(), "2 0 0 0");
        lab.warden.poke(1, 1);
        Check.same("no more", lab.leaks(), "0 0 1 1");
        Check.same("asking changes nothing", lab.leaks(), "0 0 1 1");
    }

    private static void oneOfEach() {
        Lab lab = new Lab();
        for (int k = 0; k < 5; k++) {
            lab.askFor(8);
        }
        lab.pokeWord(0, 68).pokeWord(4, 85).pokeWord(100, 116).pokeWord(104, 137);
        Check.same("one, one, one and two", lab.leaks(), "1 1 1 2");
    }

    private static void otherKindsAreRefused() {
        Lab lab = withBlocks(2);
        for (int kind : new int[] {0, -1, 5, 6, Integer.MIN_VALUE, Integer.MAX_VALUE}) {
            Check.refuses("leaks " + kind, IllegalArgumentException.class, () -> lab.warden.leaks(kind));
        }
        Consumer<Warden> some = warden -> new Lab(warden).withBlocks(4, 8).pokeWord(0, 68);
        View.staysAfterRefusal("leaks 0", some, warden -> warden.leaks(0), warden -> { });
        View.staysAfterRefusal("leaks 5", some, warden -> warden.leaks(5), warden -> { });
    }
}
