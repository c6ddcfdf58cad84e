/** What it is: the document's first words, by one program, and the calls that an object is used for. */
final class WhatItIsTest {
    public static void main(String[] args) {
        all().run();
    }

    static Sentences all() {
        return new Sentences().in("What it is")
                .holds("A machine that is watched: every byte of its memory and of its registers knows whether it may be "
                        + "used and whether it has been given a value;", WhatItIsTest::everyByteIsWatched)
                .holds("blocks of memory that are asked for stand between walls and rest for a while when they are given "
                        + "back;", WhatItIsTest::wallsAndRest)
                .holds("wrong uses are noted and the program goes on;", WhatItIsTest::notedAndGoesOn)
                .holds("and blocks that nothing leads to any more are found.", WhatItIsTest::foundWhenNothingLeads)
                .holds("An object is used for at most 512 calls after it has been made;", WhatItIsTest::the512thCall);
    }

    private static void everyByteIsWatched() {
        Lab lab = new Lab().withBlocks(10);
        Check.same("may be used", lab.warden.memory(77, 1), 1);
        Check.same("may not be used", lab.warden.memory(78, 1), 0);
        Check.same("has no value yet", lab.warden.memory(77, 2), 0);
        lab.at(0).set(1, 68).write(Lab.LOAD, 2, 1, 0, 4).halt();
        lab.go(0);
        Check.same("nor has a register then", lab.warden.register(2, 1), 0);
    }

    private static void wallsAndRest() {
        Lab lab = new Lab().withBlocks(4, 4);
        Check.same("far enough apart", lab.warden.block(2, 0) - lab.warden.block(1, 0), 12);
        lab.giveBack(68);
        Check.same("rests", lab.warden.block(1, 2), 2);
        Check.same("and keeps its place", lab.askFor(4), 92);
    }

    private static void notedAndGoesOn() {
        Lab lab = new Lab();
        lab.load(1, 100).store(1, 100).give(0).set(2, 9).halt();
        Check.same("to the end", lab.go(0), 5);
        Check.same("noted", lab.warden.count(3), 3);
        Check.same("what comes after is done", lab.warden.register(2, 0), 9);
    }

    private static void foundWhenNothingLeads() {
        Lab lab = new Lab().withBlocks(4);
        Check.same("held", lab.leaks(), "1 0 0 0");
        lab.clearRegisters();
        Check.same("lost", lab.leaks(), "0 0 1 0");
    }

    /** With the longest runs there can be; each round of two instructions is noted once. */
    private static void the512thCall() {
        Lab lab = new Lab();
        lab.load(1, 100).write(Lab.EQUAL, 0, 0, 0, 0);
        lab.warden.start(0);
        int runs = Warden.MOST_CALLS - 2 - lab.warden.calls();
        for (int i = 0; i < runs; i++) {
            Check.same("run", lab.warden.run(200), 200);
        }
        Check.same("the 511th", lab.warden.count(2), 200 * runs);
        Check.same("the 512th", lab.warden.count(4), 100 * runs);
        Check.same("calls", lab.warden.calls(), Warden.MOST_CALLS);
    }
}
