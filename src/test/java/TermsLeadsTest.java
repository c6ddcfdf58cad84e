/** Terms: LEADS and LEAK SCAN. */
final class TermsLeadsTest {
    private static final int BLOCK_1 = 68;
    private static final int BLOCK_2 = 92;
    private static final int BLOCK_3 = 116;
    private static final int BLOCK_4 = 140;
    private static final int BLOCK_5 = 164;
    private static final int SIZE = 16;

    public static void main(String[] args) {
        all().run();
    }

    static Sentences all() {
        return new Sentences().in("Terms")
                .holds("LEADS: a word, four KNOWN bytes", TermsLeadsTest::fourKnownBytes)
                .holds("that are OPEN,", TermsLeadsTest::closedWordsDoNotLead)
                .holds("at a multiple of 4", TermsLeadsTest::onlyAtMultiplesOf4)
                .holds("in STATIC", TermsLeadsTest::fromStaticButNotFromStack)
                .holds("or in the SIZE of a LIVE BLOCK,", TermsLeadsTest::fromTheSizeOfALiveBlock)
                .holds("or a REGISTER, KNOWN,", TermsLeadsTest::fromAKnownRegister)
                .holds("LEADS to a LIVE BLOCK", TermsLeadsTest::toALiveBlockOnly)
                .holds("at its ADDRESS (to its BEGINNING),", TermsLeadsTest::toTheBeginning)
                .holds("or, if it's in its SIZE but not that, INSIDE.", TermsLeadsTest::inside)
                .holds("LEAK SCAN: BLOCKS are HELD, if words of STATIC, REGISTERS", TermsLeadsTest::heldByStaticAndRegisters)
                .holds("or of HELD BLOCKS LEAD to their BEGINNING;", TermsLeadsTest::heldByHeld)
                .holds("else DOUBTFUL, if one of those LEADS INSIDE,", TermsLeadsTest::doubtfulByInside)
                .holds("or one of a DOUBTFUL BLOCK LEADS to them at all;", TermsLeadsTest::doubtfulByDoubtful)
                .holds("else, in the order of their numbers, those not yet seen: it's LOST,", TermsLeadsTest::lost)
                .holds("and all LOST or not yet seen ones,", TermsLeadsTest::draggedThoughLostBefore)
                .holds("other than itself,", TermsLeadsTest::neverItself)
                .holds("that it LEADS to (at all),", TermsLeadsTest::draggedAtAll)
                .holds("or that one found so LEADS to,", TermsLeadsTest::draggedOnAndOn)
                .holds("are DRAGGED (and seen).", TermsLeadsTest::draggedIsSeen);
    }

    private static Lab with(int... sizes) {
        Lab lab = new Lab();
        for (int size : sizes) {
            lab.askFor(size);
        }
        return lab;
    }

    /** Five blocks of 16 bytes, with nothing that leads to them. */
    private static Lab five() {
        return with(SIZE, SIZE, SIZE, SIZE, SIZE);
    }

    private static void verdicts(String what, Lab lab, String due) {
        Check.same(what, lab.verdicts(due.length()), due);
    }

    private static void fourKnownBytes() {
        for (int known = 0; known < 16; known++) {
            Lab word = five().plant(0, BLOCK_2, known).clearRegisters();
            verdicts("static word known " + known, word, known == 15 ? "31333" : "33333");
            Lab block = five().pokeWord(60, BLOCK_1).plant(BLOCK_1, BLOCK_2, known).clearRegisters();
            verdicts("block's word known " + known, block, known == 15 ? "11333" : "13333");
        }
        Lab lab = five().plant(0, BLOCK_2, 7).clearRegisters();
        lab.warden.poke(3, 0);
        verdicts("known again", lab, "31333");
    }

    private static void closedWordsDoNotLead() {
        Lab lab = with(6, 4).pokeWord(0, 68).pokeWord(72, 84);
        verdicts("two of its bytes are closed", lab, "13");
        verdicts("all of them are: a wall", with(8, 4).pokeWord(0, 68).pokeWord(76, 84), "13");
        verdicts("the wall before", with(8, 4).pokeWord(0, 68).pokeWord(64, 84), "13");
        verdicts("none is", with(8, 4).pokeWord(0, 68).pokeWord(72, 84), "11");
    }

    private static void onlyAtMultiplesOf4() {
        for (int at = 0; at <= 8; at++) {
            verdicts("static word at " + at, five().pokeWord(at, BLOCK_2), at % 4 == 0 ? "31333" : "33333");
            Lab lab = five().pokeWord(60, BLOCK_1).pokeWord(BLOCK_1 + at, BLOCK_2);
            verdicts("block's word at " + at, lab, at % 4 == 0 ? "11333" : "13333");
        }
    }

    private static void fromStaticButNotFromStack() {
        verdicts("nothing", five(), "33333");
        verdicts("the first word", five().pokeWord(0, BLOCK_2), "31333");
        verdicts("the last word", five().pokeWord(60, BLOCK_2), "31333");
        verdicts("a word over the edge", five().pokeWord(62, BLOCK_2), "33333");
        verdicts("behind it", five().pokeWord(64, BLOCK_2), "33333");
        verdicts("the first word of the stack", five().pokeWord(224, BLOCK_2), "33333");
        verdicts("the last word of the stack", five().pokeWord(252, BLOCK_2), "33333");
        verdicts("heap without a block", five().pokeWord(216, BLOCK_2), "33333");
    }

    private static void fromTheSizeOfALiveBlock() {
        verdicts("the first word", five().pokeWord(0, BLOCK_1).pokeWord(BLOCK_1, BLOCK_5), "13331");
        verdicts("the last word", five().pokeWord(0, BLOCK_1).pokeWord(BLOCK_1 + 12, BLOCK_5), "13331");
        verdicts("behind it", five().pokeWord(0, BLOCK_1).pokeWord(BLOCK_1 + 16, BLOCK_5), "13333");
        for (int size = 1; size <= 8; size++) {
            Lab lab = with(size, 4);
            int other = lab.warden.block(2, 0);
            verdicts("first word in a size of " + size, with(size, 4).pokeWord(0, 68).pokeWord(68, other),
                    size >= 4 ? "11" : "13");
            verdicts("second word in a size of " + size, with(size, 4).pokeWord(0, 68).pokeWord(72, other),
                    size >= 8 ? "11" : "13");
        }
        Lab rest = five().giveBack(BLOCK_1).pokeWord(BLOCK_1, BLOCK_2).pokeWord(0, BLOCK_1);
        verdicts("of a resting one", rest, "03333");
    }

    private static void fromAKnownRegister() {
        for (int r = 1; r < 8; r++) {
            for (int known : new int[] {15, 14, 13, 11, 7, 0}) {
                Lab lab = five().plant(Lab.STACK, BLOCK_3, known);
                lab.at(0).load(r, Lab.STACK);
                lab.warden.start(0);
                lab.warden.run(1);
                Check.same("its value", lab.warden.register(r, 0), BLOCK_3);
                verdicts("R" + r + " known " + known, lab, known == 15 ? "33133" : "33333");
            }
        }
    }

    private static void toALiveBlockOnly() {
        Lab lab = five().pokeWord(0, BLOCK_2).giveBack(BLOCK_2);
        verdicts("a resting one is led to by nothing", lab, "30333");
        Check.same("and is not counted", lab.leaks(), "0 0 4 0");
        lab.giveBack(BLOCK_3).giveBack(BLOCK_4).giveBack(BLOCK_5);
        Check.same("nor is one that is gone", lab.leaks(), "0 0 1 0");
        Check.same("a new one is asked for at its place", lab.askFor(16), BLOCK_2);
        Check.same("and led to", lab.warden.block(6, 3), 1);
    }

    private static void toTheBeginning() {
        verdicts("at its address", five().pokeWord(0, BLOCK_2), "31333");
        for (int bit = 8; bit < 32; bit++) {
            verdicts("with bit " + bit, five().pokeWord(0, BLOCK_2 + (1 << bit)), "33333");
        }
        verdicts("a block of one byte", with(1).pokeWord(0, 68), "1");
        verdicts("zero leads nowhere", five().pokeWord(0, 0), "33333");
    }

    private static void inside() {
        for (int more : new int[] {1, 2, 4, SIZE - 1}) {
            verdicts("address and " + more, five().pokeWord(0, BLOCK_2 + more), "32333");
        }
        for (int off : new int[] {-4, -1, SIZE, SIZE + 1, SIZE + 3}) {
            verdicts("address and " + off, five().pokeWord(0, BLOCK_2 + off), "33333");
        }
        verdicts("last byte of 6", with(6).pokeWord(0, 73), "2");
        verdicts("room behind 6", with(6).pokeWord(0, 74), "3");
        verdicts("room behind 1", with(1).pokeWord(0, 69), "3");
        verdicts("both, and the beginning counts", five().pokeWord(0, BLOCK_2 + 1).pokeWord(4, BLOCK_2), "31333");
    }

    private static void heldByStaticAndRegisters() {
        Lab lab = five().pokeWord(8, BLOCK_1);
        lab.at(0).set(1, BLOCK_4).set(7, BLOCK_5);
        lab.warden.start(0);
        lab.warden.run(2);
        verdicts("static, R1 and R7", lab, "13311");
        lab.warden.start(0);
        verdicts("clear registers lead nowhere", lab, "13333");
        lab.pokeWord(8, 0);
        verdicts("nor does a word that is gone", lab, "33333");
    }

    private static void heldByHeld() {
        Lab lab = five().pokeWord(8, BLOCK_4).pokeWord(BLOCK_4 + 12, BLOCK_2).pokeWord(BLOCK_2, BLOCK_5);
        verdicts("a chain against the order", lab, "31311");
        lab.pokeWord(BLOCK_5 + 4, BLOCK_5).pokeWord(BLOCK_5 + 8, BLOCK_4);
        verdicts("and a ring", lab, "31311");
        lab.pokeWord(8, 0);
        verdicts("a ring that nothing holds", lab, "33344");
    }

    private static void doubtfulByInside() {
        verdicts("static", five().pokeWord(8, BLOCK_4 + 2), "33323");
        Lab lab = five();
        lab.at(0).set(3, BLOCK_4 + 15);
        lab.warden.start(0);
        lab.warden.run(1);
        verdicts("a register", lab, "33323");
        verdicts("a held block", five().pokeWord(8, BLOCK_4).pokeWord(BLOCK_4, BLOCK_2 + 4), "32313");
        verdicts("a held block into itself is held", five().pokeWord(8, BLOCK_4).pokeWord(BLOCK_4, BLOCK_4 + 4), "33313");
    }

    private static void doubtfulByDoubtful() {
        Lab lab = five().pokeWord(8, BLOCK_4 + 2).pokeWord(BLOCK_4, BLOCK_2).pokeWord(BLOCK_2, BLOCK_5 + 3);
        verdicts("to the beginning and inside", lab, "32322");
        lab.pokeWord(16, BLOCK_2);
        verdicts("held is stronger, and leads inside", lab, "31322");
        lab.pokeWord(BLOCK_5, BLOCK_4);
        verdicts("a ring of doubt", lab, "31322");
        lab.pokeWord(BLOCK_2, BLOCK_5);
        verdicts("held through held", lab, "31311");
    }

    private static void lost() {
        verdicts("all of them", five(), "33333");
        verdicts("the one", with(1), "3");
        verdicts("one that leads to later ones is lost, they are not", five().pokeWord(BLOCK_2, BLOCK_4), "33343");
        verdicts("a ring: the lowest number", five().pokeWord(BLOCK_4, BLOCK_2).pokeWord(BLOCK_2, BLOCK_4), "33343");
        verdicts("leads to held", five().pokeWord(0, BLOCK_1).pokeWord(BLOCK_2, BLOCK_1), "13333");
        verdicts("leads to doubtful", five().pokeWord(0, BLOCK_1 + 1).pokeWord(BLOCK_2, BLOCK_1), "23333");
        Lab lab = with(4, 4, 4, 4, 4);
        lab.giveBack(68).giveBack(80).giveBack(92).giveBack(104);
        Check.same("takes the place of the first", lab.askFor(4), 68);
        lab.pokeWord(68, 116).pokeWord(116, 68);
        Check.same("by number, not by place: the older", lab.warden.block(5, 3), 3);
        Check.same("by number, not by place: the newer", lab.warden.block(6, 3), 4);
    }

    private static void draggedThoughLostBefore() {
        verdicts("led to by a later one", five().pokeWord(BLOCK_4, BLOCK_2), "34333");
        verdicts("and what it dragged stays dragged",
                five().pokeWord(BLOCK_2, BLOCK_1).pokeWord(BLOCK_4, BLOCK_2), "44333");
        verdicts("the first by the last", five().pokeWord(BLOCK_5, BLOCK_1), "43333");
    }

    private static void neverItself() {
        verdicts("its beginning", five().pokeWord(BLOCK_2, BLOCK_2), "33333");
        verdicts("its inside", five().pokeWord(BLOCK_2, BLOCK_2 + 4), "33333");
        Lab ring = five().pokeWord(BLOCK_2, BLOCK_3).pokeWord(BLOCK_3, BLOCK_4).pokeWord(BLOCK_4, BLOCK_2);
        verdicts("through others", ring, "33443");
        ring.pokeWord(BLOCK_5, BLOCK_2);
        verdicts("a ring behind a later one", ring, "34443");
    }

    private static void draggedAtAll() {
        verdicts("the beginning", five().pokeWord(BLOCK_2, BLOCK_4), "33343");
        verdicts("the first byte inside", five().pokeWord(BLOCK_2, BLOCK_4 + 1), "33343");
        verdicts("the last byte inside", five().pokeWord(BLOCK_2, BLOCK_4 + 15), "33343");
        verdicts("behind it", five().pokeWord(BLOCK_2, BLOCK_4 + 16), "33333");
    }

    private static void draggedOnAndOn() {
        Lab lab = five().pokeWord(BLOCK_1, BLOCK_3).pokeWord(BLOCK_3 + 12, BLOCK_2 + 1).pokeWord(BLOCK_2, BLOCK_5);
        verdicts("a chain", lab, "34434");
        verdicts("against the order", five().pokeWord(BLOCK_5, BLOCK_3).pokeWord(BLOCK_3, BLOCK_1), "43433");
        Lab two = five().pokeWord(BLOCK_1, BLOCK_4).pokeWord(BLOCK_1 + 4, BLOCK_5).pokeWord(BLOCK_5, BLOCK_3);
        verdicts("two ways", two, "33444");
    }

    private static void draggedIsSeen() {
        verdicts("it is not lost when its turn comes", five().pokeWord(BLOCK_1, BLOCK_2), "34333");
        Lab two = five().pokeWord(BLOCK_2, BLOCK_1).pokeWord(BLOCK_3, BLOCK_1);
        verdicts("dragged by the first of two", two, "43333");
        Lab ring = five().pokeWord(BLOCK_2, BLOCK_3).pokeWord(BLOCK_3, BLOCK_2).pokeWord(BLOCK_5, BLOCK_3);
        verdicts("one dragged before is not gone through again", ring, "33433");
    }
}
