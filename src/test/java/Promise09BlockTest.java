import java.util.NoSuchElementException;

/** Promise 9: what block tells of a block by its number. */
final class Promise09BlockTest {
    public static void main(String[] args) {
        liveAndResting();
        goneOnesAndNumbers();
        wrongCalls();
        Check.finish();
    }

    private static String told(Lab lab, int k) {
        ShadowWarden w = lab.warden;
        return w.block(k, 0) + " " + w.block(k, 1) + " " + w.block(k, 2) + " " + w.block(k, 3);
    }

    private static void liveAndResting() {
        Lab lab = new Lab();
        lab.withBlocks(1, 48, 7);
        Check.same("first", told(lab, 1), "68 1 1 1");
        Check.same("second", told(lab, 2), "80 48 1 1");
        Check.same("third", told(lab, 3), "136 7 1 1");
        lab.warden.start(0);
        Check.same("lost without registers", told(lab, 2), "80 48 1 3");
        lab.giveBack(80);
        Check.same("resting", told(lab, 2), "80 48 2 0");
        Check.same("asking does not change it", told(lab, 2), "80 48 2 0");
        lab.pokeWord(0, 80);
        Check.same("nothing leads to a resting one", told(lab, 2), "80 48 2 0");
    }

    private static void goneOnesAndNumbers() {
        Lab lab = new Lab();
        for (int k = 1; k <= 30; k++) {
            int address = lab.askFor(20);
            Check.same("number " + k, lab.warden.block(k, 0), address);
            lab.giveBack(address);
        }
        for (int k = 1; k <= 27; k++) {
            int gone = k;
            Check.refuses("gone " + k, NoSuchElementException.class, () -> lab.warden.block(gone, 2));
        }
        for (int k = 28; k <= 30; k++) {
            Check.same("rests " + k, lab.warden.block(k, 2), 2);
        }
        Check.same("got", lab.warden.count(7), 30);
    }

    private static void wrongCalls() {
        Lab lab = new Lab();
        lab.withBlocks(4);
        for (int k : new int[] {0, -1, 2, 11, Integer.MIN_VALUE, Integer.MAX_VALUE}) {
            for (int what = 0; what < 4; what++) {
                int w = what;
                Check.refuses("block " + k, NoSuchElementException.class, () -> lab.warden.block(k, w));
            }
            Check.refuses("block " + k + ", -1", IllegalArgumentException.class, () -> lab.warden.block(k, -1));
        }
        Check.refuses("what 4", IllegalArgumentException.class, () -> lab.warden.block(1, 4));
        Check.refuses("what -1", IllegalArgumentException.class, () -> lab.warden.block(1, -1));
    }
}
