import java.util.NoSuchElementException;
import java.util.function.Consumer;

/** Promise 9: block. */
final class Promise09BlockTest {
    public static void main(String[] args) {
        all().run();
    }

    static Sentences all() {
        return new Sentences().in("Promise 9: block")
                .holds("BLOCK number k:", Promise09BlockTest::byItsNumber)
                .holds("its ADDRESS (what 0),", Promise09BlockTest::address)
                .holds("SIZE (1),", Promise09BlockTest::size)
                .holds("1 LIVE, 2 RESTING (2),", Promise09BlockTest::liveOrResting)
                .holds("by a LEAK SCAN made now", Promise09BlockTest::madeNow)
                .holds("1 HELD, 2 DOUBTFUL, 3 LOST, 4 DRAGGED,", Promise09BlockTest::verdicts)
                .holds("0 RESTING (3).", Promise09BlockTest::restingHasNoVerdict)
                .holds("None or gone: NoSuchElementException.", Promise09BlockTest::neverThere)
                .holds("or gone: NoSuchElementException.", Promise09BlockTest::gone)
                .holds("or gone: NoSuchElementException.", Promise09BlockTest::othersStayWhenOneIsGone)
                .holds("throws IllegalArgumentException, java.util.NoSuchElementException`:",
                        Promise09BlockTest::otherWhatsAreRefused);
    }

    private static void refused(String what, Lab lab, int k) {
        for (int asked = 0; asked <= 3; asked++) {
            int of = asked;
            Check.refuses(what + ", block(" + k + ", " + asked + ")", NoSuchElementException.class,
                    () -> lab.warden.block(k, of));
        }
    }

    private static void byItsNumber() {
        Lab lab = new Lab();
        for (int k = 1; k <= 20; k++) {
            int address = lab.askFor(20 + k % 3);
            Check.same("number " + k, lab.warden.block(k, 0), address);
            lab.giveBack(address);
        }
        Check.same("the oldest that rests", lab.warden.block(18, 2), 2);
        Check.same("the newest", lab.warden.block(20, 2), 2);
    }

    private static void address() {
        Lab lab = new Lab();
        for (int k = 1; k <= 10; k++) {
            lab.askFor(4);
        }
        for (int k = 1; k <= 10; k++) {
            Check.same("address of " + k, lab.warden.block(k, 0), 56 + 12 * k);
        }
        lab.giveBack(68);
        Check.same("resting", lab.warden.block(1, 0), 68);
    }

    private static void size() {
        Lab lab = new Lab().withBlocks(1, 48, 5);
        Check.same("the least", lab.warden.block(1, 1), 1);
        Check.same("the greatest", lab.warden.block(2, 1), 48);
        Check.same("not the room", lab.warden.block(3, 1), 5);
        lab.giveBack(68);
        Check.same("resting", lab.warden.block(1, 1), 1);
    }

    private static void liveOrResting() {
        Lab lab = new Lab().withBlocks(4, 4);
        Check.same("live", lab.warden.block(1, 2), 1);
        lab.giveBack(68);
        Check.same("resting", lab.warden.block(1, 2), 2);
        Check.same("the other", lab.warden.block(2, 2), 1);
    }

    private static void madeNow() {
        Lab lab = new Lab().withBlocks(8);
        Check.same("the register holds it", lab.warden.block(1, 3), 1);
        lab.warden.start(0);
        Check.same("start clears the register", lab.warden.block(1, 3), 3);
        lab.pokeWord(0, 70);
        Check.same("poked", lab.warden.block(1, 3), 2);
        lab.pokeWord(0, 68);
        Check.same("poked again", lab.warden.block(1, 3), 1);
        Check.same("asking changes nothing", lab.warden.block(1, 3), 1);
    }

    private static void verdicts() {
        Lab lab = new Lab();
        for (int k = 0; k < 4; k++) {
            lab.askFor(8);
        }
        lab.pokeWord(0, 68).pokeWord(4, 85).pokeWord(100, 116);
        Check.same("all four", lab.verdicts(4), "1234");
    }

    private static void restingHasNoVerdict() {
        Lab lab = new Lab().withBlocks(8).pokeWord(0, 68);
        Check.same("held", lab.warden.block(1, 3), 1);
        lab.giveBack(68);
        Check.same("resting, though a word has its address", lab.warden.block(1, 3), 0);
    }

    private static void neverThere() {
        for (int many : new int[] {0, 1, 10}) {
            Lab lab = new Lab();
            for (int k = 0; k < many; k++) {
                lab.askFor(4);
            }
            for (int k : new int[] {0, -1, many + 1, 11, Integer.MIN_VALUE, Integer.MAX_VALUE}) {
                refused("of " + many, lab, k);
            }
        }
        Lab lab = new Lab();
        lab.askFor(49);
        refused("asked for and not got", lab, 1);
        lab.askFor(48);
        Check.same("so this is number 1", lab.warden.block(1, 1), 48);
    }

    private static void gone() {
        Lab lab = new Lab();
        for (int k = 0; k < 5; k++) {
            lab.askFor(4);
        }
        lab.giveBack(80).giveBack(68).giveBack(92);
        Check.same("the third rests", lab.warden.block(3, 2), 2);
        lab.giveBack(104);
        refused("the first given", lab, 2);
        lab.giveBack(116);
        refused("the second given", lab, 1);
        lab.askFor(4);
        refused("its place is taken again", lab, 1);
        Check.same("by number 6", lab.warden.block(6, 0), 68);
    }

    private static void othersStayWhenOneIsGone() {
        Lab lab = new Lab().withBlocks(4, 8, 1, 12, 7);
        lab.giveBack(80).giveBack(68).giveBack(108).giveBack(128);
        refused("the second", lab, 2);
        int[][] due = {{1, 68, 4, 2}, {3, 96, 1, 1}, {4, 108, 12, 2}, {5, 128, 7, 2}};
        for (int[] row : due) {
            for (int what = 0; what <= 2; what++) {
                Check.same("block(" + row[0] + ", " + what + ")", lab.warden.block(row[0], what), row[what + 1]);
            }
        }
    }

    private static void otherWhatsAreRefused() {
        Lab lab = new Lab().withBlocks(4);
        for (int what : new int[] {-1, 4, 5, Integer.MIN_VALUE, Integer.MAX_VALUE}) {
            for (int k : new int[] {1, 0, 2, -1}) {
                Check.refuses("block(" + k + ", " + what + ")", IllegalArgumentException.class,
                        () -> lab.warden.block(k, what));
            }
        }
        Consumer<Warden> some = warden -> new Lab(warden).withBlocks(4, 8).pokeWord(0, 68);
        View.staysAfterRefusal("block 3", some, warden -> warden.block(3, 3), warden -> { });
        View.staysAfterRefusal("what 4", some, warden -> warden.block(1, 4), warden -> { });
    }
}
