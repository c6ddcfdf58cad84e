/** Promise 4, with "BLOCKS": where asked blocks stand, and what giving one back does. */
final class Promise04BlocksTest {
    public static void main(String[] args) {
        sizesOutOfBoundsGetNothing();
        blocksStandAtTheLeastPlace();
        atMostTenBlocks();
        onlySizeBytesOpen();
        givingClosesAndForgets();
        theLongestRestingIsGone();
        gapsAreTakenAgain();
        Check.finish();
    }

    private static void sizesOutOfBoundsGetNothing() {
        Lab lab = new Lab();
        for (int size : new int[] {0, -1, 49, Integer.MIN_VALUE, Integer.MAX_VALUE}) {
            Check.same("asking for " + size, lab.askFor(size), 0);
        }
        Check.same("none got", lab.warden.count(7), 0);
        Check.same("no finding", lab.warden.count(3), 0);
        Check.same("one byte", lab.askFor(1), 68);
        Check.same("48 bytes", lab.askFor(48), 80);
    }

    private static void blocksStandAtTheLeastPlace() {
        Lab lab = new Lab();
        Check.same("48", lab.askFor(48), 68);
        Check.same("48 more", lab.askFor(48), 124);
        Check.same("40 to the very end", lab.askFor(40), 180);
        Check.same("no place for 1", lab.askFor(1), 0);
        Lab other = new Lab();
        other.askFor(48);
        other.askFor(48);
        Check.same("41 need 44", other.askFor(41), 0);
        Check.same("37 need 40", other.askFor(37), 180);
        Check.same("got three", other.warden.count(7), 3);
    }

    private static void atMostTenBlocks() {
        Lab lab = new Lab();
        for (int k = 1; k <= 10; k++) {
            Check.same("block " + k, lab.askFor(4), 56 + 12 * k);
        }
        Check.same("the eleventh", lab.askFor(4), 0);
        for (int k = 1; k <= 3; k++) {
            lab.giveBack(56 + 12 * k);
        }
        Check.same("resting ones count", lab.askFor(4), 0);
        lab.giveBack(104);
        Check.same("one is gone", lab.askFor(4), 68);
        Check.same("its number is new", lab.warden.block(11, 0), 68);
        Check.same("ten again", lab.askFor(4), 0);
    }

    private static void onlySizeBytesOpen() {
        Lab lab = new Lab();
        for (int i = 64; i < 84; i++) {
            lab.warden.poke(i, i);
        }
        Check.same("ten bytes", lab.askFor(10), 68);
        for (int i = 64; i < 84; i++) {
            boolean inSize = i >= 68 && i < 78;
            Check.same("byte " + i + " open", lab.warden.memory(i, 1), inSize ? 1 : 0);
            Check.same("byte " + i + " known", lab.warden.memory(i, 2), inSize ? 0 : 1);
            Check.same("byte " + i + " holds what it held", lab.warden.memory(i, 0), i);
        }
    }

    private static void givingClosesAndForgets() {
        Lab lab = new Lab();
        lab.askFor(10);
        for (int i = 64; i < 84; i++) {
            lab.warden.poke(i, i);
        }
        lab.giveBack(68);
        for (int i = 64; i < 84; i++) {
            Check.same("byte " + i + " closed", lab.warden.memory(i, 1), 0);
            Check.same("byte " + i + " known", lab.warden.memory(i, 2), i >= 68 && i < 78 ? 0 : 1);
            Check.same("byte " + i + " holds what it held", lab.warden.memory(i, 0), i);
        }
        Check.same("it rests", lab.warden.block(1, 2), 2);
        Check.same("no finding", lab.warden.count(3), 0);
        Check.same("its place is not free", lab.askFor(10), 88);
    }

    private static void theLongestRestingIsGone() {
        Lab lab = new Lab();
        for (int k = 0; k < 6; k++) {
            lab.askFor(4);
        }
        for (int address : new int[] {92, 68, 128}) {
            lab.giveBack(address);
        }
        Check.same("three rest", lab.warden.count(6), 3);
        lab.giveBack(80);
        Check.same("still three", lab.warden.count(6), 3);
        Check.refuses("the first given is gone", java.util.NoSuchElementException.class, () -> lab.warden.block(3, 0));
        lab.giveBack(104);
        Check.refuses("then the second", java.util.NoSuchElementException.class, () -> lab.warden.block(1, 0));
        Check.same("the third rests", lab.warden.block(6, 2), 2);
        Check.same("the fourth rests", lab.warden.block(2, 2), 2);
        Check.same("one lives", lab.warden.block(4, 2) + lab.warden.count(5), 3);
        lab.giveBack(68);
        Check.same("giving a gone one", lab.finding(0), "5 at 29, 68, x1");
    }

    private static void gapsAreTakenAgain() {
        Lab lab = new Lab();
        for (int size : new int[] {4, 12, 4, 3, 2, 1}) {
            lab.askFor(size);
        }
        for (int address : new int[] {80, 100, 112, 124}) {
            lab.giveBack(address);
        }
        for (int k = 3; k <= 6; k++) {
            Check.same("address of " + k, lab.warden.block(k, 0), 64 + 12 * k);
            Check.same("size of " + k, lab.warden.block(k, 1), 7 - k);
        }
        Check.same("the gap is too small for 16", lab.askFor(16), 148);
        Check.same("a part of the gap", lab.askFor(2), 80);
        Check.same("no room beside it", lab.askFor(4), 172);
    }
}
