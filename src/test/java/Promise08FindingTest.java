import java.util.NoSuchElementException;

/** Promise 8: the findings, in the order in which they came first. */
final class Promise08FindingTest {
    public static void main(String[] args) {
        closedBytes();
        unknownUses();
        unknownAddresses();
        wrongGifts();
        firstAddressStaysAndTimesCount();
        onlyTwentyFour();
        wrongCalls();
        Check.finish();
    }

    private static void closedBytes() {
        Lab lab = new Lab();
        lab.load(1, 60).load(1, 61).load(1, 64).write(Lab.LOAD_BYTE, 1, 0, 0, 63).write(Lab.LOAD_BYTE, 1, 0, 0, 223);
        lab.store(1, 221).store(1, 224).write(Lab.STORE_BYTE, 0, 0, 1, 90).halt();
        lab.go(0);
        Check.same("how many", lab.warden.count(3), 5);
        Check.same("word with its last byte closed", lab.finding(0), "1 at 1, 64, x1");
        Check.same("word all closed", lab.finding(1), "1 at 2, 64, x1");
        Check.same("byte", lab.finding(2), "1 at 4, 223, x1");
        Check.same("store of a word", lab.finding(3), "2 at 5, 221, x1");
        Check.same("store of a byte", lab.finding(4), "2 at 7, 90, x1");
        Lab done = new Lab();
        done.warden.poke(100, 7);
        done.set(1, 0x0102).store(1, 102).load(2, 100).halt();
        done.go(0);
        Check.same("stored all the same", done.warden.memory(102, 0), 2);
        Check.same("known now", done.warden.memory(105, 2), 1);
        Check.same("closed still", done.warden.memory(102, 1), 0);
        Check.same("loaded all the same", done.warden.register(2, 0), 0x01020007);
        Check.same("known as in memory", done.warden.register(2, 1), 13);
        Lab between = new Lab();
        between.set(1, 6).ask(2, 1).write(Lab.LOAD, 3, 2, 0, 4).write(Lab.LOAD, 3, 2, 0, -2).halt();
        between.go(0);
        Check.same("behind the size", between.finding(0), "1 at 2, 74, x1");
        Check.same("before the block", between.finding(1), "1 at 3, 66, x1");
    }

    private static void unknownUses() {
        Lab lab = new Lab();
        lab.warden.poke(Lab.STACK, 9);
        lab.warden.poke(Lab.STACK + 1, 0);
        lab.warden.poke(Lab.STACK + 2, 0);
        lab.load(1, Lab.STACK).set(2, 9);
        lab.write(Lab.EQUAL, 0, 1, 2, 4).halt().write(Lab.BELOW, 0, 2, 1, 3);
        lab.write(Lab.EQUAL, 0, 2, 2, 7).halt().write(Lab.ASK, 3, 1, 1, 0).write(Lab.CALL, 0, 1, 1, 9);
        lab.give(1).set(4, 12).write(Lab.BACK, 0, 1, 1, 0);
        lab.warden.start(0);
        Check.same("all the way", lab.warden.run(10), 10);
        Check.same("back goes all the same", lab.warden.count(0), 9);
        Check.same("equal: of a", lab.finding(0), "3 at 2, 9, x1");
        Check.same("below: of b, with a's value", lab.finding(1), "3 at 4, 9, x1");
        Check.same("ask", lab.finding(2), "3 at 7, 9, x1");
        Check.same("give, before kind 5", lab.finding(3), "3 at 9, 9, x1");
        Check.same("kind 5", lab.finding(4), "5 at 9, 9, x1");
        Check.same("back", lab.finding(5), "3 at 11, 9, x1");
        Check.same("no more", lab.warden.count(3), 6);
        Check.same("asked all the same", lab.warden.block(1, 1), 9);
        Lab calm = new Lab();
        calm.load(1, Lab.STACK).write(Lab.ADD, 2, 1, 1, 0).write(Lab.AND, 2, 1, 1, 0).store(1, 8);
        calm.write(Lab.BACK, 0, 0, 1, 0);
        calm.warden.start(0);
        calm.warden.run(5);
        Check.same("no use of these counts", calm.warden.count(3), 0);
        Lab ofB = new Lab();
        ofB.load(1, Lab.STACK).set(2, -8).write(Lab.EQUAL, 0, 2, 1, 9).write(Lab.ASK, 3, 2, 1, 0);
        ofB.set(4, 8).ask(5, 4).write(Lab.GIVE, 0, 5, 1, 0).halt();
        ofB.go(0);
        Check.same("a's value though b is meant", ofB.finding(0), "3 at 2, -8, x1");
        Check.same("b counts only in 13 and 14", ofB.warden.count(3), 1);
    }

    private static void unknownAddresses() {
        Lab lab = new Lab();
        lab.load(1, Lab.STACK).write(Lab.LOAD, 2, 1, 0, 100).write(Lab.LOAD_BYTE, 2, 1, 0, 10);
        lab.write(Lab.STORE, 0, 1, 0, 62).write(Lab.STORE_BYTE, 0, 1, 0, 11).write(Lab.STORE, 0, 0, 1, 20);
        lab.write(Lab.STORE, 0, 1, 0, -7);
        lab.warden.start(0);
        Check.refuses("the last one", IndexOutOfBoundsException.class, () -> lab.warden.run(200));
        Check.same("load, 4 first", lab.finding(0), "4 at 1, 100, x1");
        Check.same("load, then 1", lab.finding(1), "1 at 1, 100, x1");
        Check.same("load of a byte", lab.finding(2), "4 at 2, 10, x1");
        Check.same("store, 4 first", lab.finding(3), "4 at 3, 62, x1");
        Check.same("store, then 2", lab.finding(4), "2 at 3, 64, x1");
        Check.same("store of a byte", lab.finding(5), "4 at 4, 11, x1");
        Check.same("fault", lab.finding(6), "4 at 6, -7, x1");
        Check.same("no more", lab.warden.count(3), 7);
        Lab known = new Lab();
        known.set(1, 62).write(Lab.LOAD, 2, 1, 0, 192);
        known.warden.start(0);
        Check.refuses("a fault with a known address", IndexOutOfBoundsException.class, () -> known.warden.run(2));
        Check.same("is no finding", known.warden.count(3), 0);
    }

    private static void wrongGifts() {
        Lab lab = new Lab();
        lab.set(1, 8).ask(2, 1).write(Lab.MOVE, 3, 2, 0, 4).give(3).give(0).give(2).give(2).set(4, -5).give(4).halt();
        lab.go(0);
        Check.same("inside is not its address", lab.finding(0), "5 at 3, 72, x1");
        Check.same("giving 0", lab.finding(1), "5 at 4, 0, x1");
        Check.same("giving what rests", lab.finding(2), "6 at 6, 68, x1");
        Check.same("giving what is nowhere", lab.finding(3), "5 at 8, -5, x1");
        Check.same("one rests", lab.warden.count(6), 1);
        Lab resting = new Lab();
        resting.withBlocks(4, 4, 4, 4);
        resting.giveBack(68).giveBack(80).giveBack(92).giveBack(68).giveBack(104);
        Check.refuses("giving again does not rest anew", NoSuchElementException.class, () -> resting.warden.block(1, 0));
        resting.giveBack(68);
        Check.same("kind 6 and kind 5 at one instruction are two", resting.finding(0) + "; " + resting.finding(1),
                "6 at 29, 68, x1; 5 at 29, 68, x1");
    }

    private static void firstAddressStaysAndTimesCount() {
        Lab lab = new Lab();
        lab.set(2, 8).write(Lab.LOAD, 3, 1, 0, 100).write(Lab.MOVE, 1, 1, 0, 4).write(Lab.BELOW, 0, 1, 2, 1);
        lab.load(3, 100).halt();
        lab.go(0);
        Check.same("the loop's", lab.finding(0), "1 at 1, 100, x2");
        Check.same("the same address elsewhere is another", lab.finding(1), "1 at 4, 100, x1");
        Check.same("all times", lab.warden.count(4), 3);
        lab.at(1).write(Lab.LOAD, 3, 0, 0, 200);
        lab.go(0);
        Check.same("first address stays when code is changed", lab.finding(0), "1 at 1, 100, x4");
    }

    private static void onlyTwentyFour() {
        Lab lab = new Lab();
        for (int i = 0; i < 26; i++) {
            lab.load(1, 100 + i);
        }
        lab.halt();
        Check.same("goes on", lab.go(0), 27);
        Check.same("twenty-four", lab.warden.count(3), 24);
        Check.same("counted", lab.warden.count(4), 24);
        Check.same("the last", lab.finding(23), "1 at 23, 123, x1");
        lab.go(0);
        Check.same("those there count on", lab.finding(23), "1 at 23, 123, x2");
        Check.same("all times", lab.warden.count(4), 48);
        Check.refuses("no twenty-fifth", NoSuchElementException.class, () -> lab.warden.finding(24, 0));
    }

    private static void wrongCalls() {
        Lab lab = new Lab();
        lab.load(1, 100).halt();
        lab.go(0);
        for (int k : new int[] {-1, 1, 24, 25, Integer.MIN_VALUE, Integer.MAX_VALUE}) {
            for (int what = 0; what < 4; what++) {
                int w = what;
                Check.refuses("finding " + k, NoSuchElementException.class, () -> lab.warden.finding(k, w));
            }
            Check.refuses("finding " + k + ", 4", IllegalArgumentException.class, () -> lab.warden.finding(k, 4));
        }
        Check.refuses("what -1", IllegalArgumentException.class, () -> lab.warden.finding(0, -1));
        Check.refuses("what 4", IllegalArgumentException.class, () -> lab.warden.finding(0, 4));
    }
}
