import java.util.NoSuchElementException;

/** Terms: BLOCKS. */
final class TermsBlocksTest {
    public static void main(String[] args) {
        all().run();
    }

    static Sentences all() {
        return new Sentences().in("Terms")
                .holds("BLOCKS: ASKING for 1 .. 48 bytes", TermsBlocksTest::from1To48)
                .holds("(else 0, and nothing):", TermsBlocksTest::elseNothing)
                .holds("their SIZE is that,", TermsBlocksTest::sizeIsThat)
                .holds("their ROOM the next multiple of 4,", TermsBlocksTest::roomIsTheNextMultiple)
                .holds("and they stand at the least multiple of 4", TermsBlocksTest::theLeastPlace)
                .holds("so that 4 bytes before them (68 .. at least)", TermsBlocksTest::from68On)
                .holds("and 4 behind their ROOM are in HEAP,", TermsBlocksTest::wallBehindIsInHeap)
                .holds("and no byte of ROOM or of these walls is in the ROOM or walls of another BLOCK,",
                        TermsBlocksTest::nothingIsShared)
                .holds("of another BLOCK, LIVE or RESTING.", TermsBlocksTest::restingKeepTheirPlace)
                .holds("There's none,", TermsBlocksTest::noPlaceAnswers0)
                .holds("or there are 10 BLOCKS: 0.", TermsBlocksTest::tenBlocksAnswer0)
                .holds("Its SIZE bytes become OPEN and not KNOWN", TermsBlocksTest::sizeBytesOpen)
                .holds("(what they hold stays).", TermsBlocksTest::whatTheyHoldStays)
                .holds("They're numbered 1, 2, .. as they come.", TermsBlocksTest::numbersAsTheyCome)
                .holds("GIVING one back: it RESTS,", TermsBlocksTest::givenBackRests)
                .holds("its bytes are CLOSED and not KNOWN;", TermsBlocksTest::givenBackCloses)
                .holds("if more than 3 REST, the one resting longest is gone.", TermsBlocksTest::theFourthDrivesOneAway)
                .holds("the one resting longest is gone.", TermsBlocksTest::longestByRestNotByNumber);
    }

    private static Lab with(int... sizes) {
        Lab lab = new Lab();
        for (int size : sizes) {
            lab.askFor(size);
        }
        return lab;
    }

    private static void from1To48() {
        for (int size : new int[] {1, 2, 47, 48}) {
            Check.same("asking for " + size, new Lab().askFor(size), 68);
        }
        for (int size : new int[] {0, -1, 49, 50, 160, Integer.MIN_VALUE, Integer.MAX_VALUE}) {
            Check.same("asking for " + size, new Lab().askFor(size), 0);
        }
    }

    private static void elseNothing() {
        for (int size : new int[] {0, -1, 49, Integer.MIN_VALUE, Integer.MAX_VALUE}) {
            String calm = View.after(warden -> askOn(warden, Lab.SET, size));
            String asked = View.after(warden -> askOn(warden, Lab.ASK, size));
            Check.same("asking for " + size + " is like setting d to 0", asked, calm);
        }
    }

    /** The last instruction puts 0 into R2, either by SET or by an ASK that gets nothing. */
    private static void askOn(Warden warden, int op, int size) {
        warden.code(0, Lab.SET, 1, 0, 0, 20);
        warden.code(1, Lab.ASK, 3, 1, 0, 0);
        warden.code(2, Lab.SET, 1, 0, 0, size);
        warden.code(3, op, 2, 1, 0, 0);
        warden.start(0);
        warden.run(4);
    }

    private static void sizeIsThat() {
        for (int size = 1; size <= 48; size++) {
            Lab lab = with(size);
            Check.same("size " + size, lab.warden.block(1, 1), size);
            Check.same("last byte is open", lab.warden.memory(67 + size, 1), 1);
            Check.same("the one behind it is not", lab.warden.memory(68 + size, 1), 0);
        }
    }

    private static void roomIsTheNextMultiple() {
        for (int size = 1; size <= 48; size++) {
            int room = size + (4 - size % 4) % 4;
            Check.same("the one behind " + size, with(size).askFor(4), 68 + room + 8);
        }
    }

    private static void theLeastPlace() {
        Lab lab = with(4, 12, 4, 4, 4);
        Check.same("behind all", lab.askFor(4), 136);
        lab.giveBack(80).giveBack(100).giveBack(112).giveBack(124);
        Check.same("the gap from 76 to 95 is too small for 16", lab.askFor(16), 148);
        Check.same("the least place in the gap", lab.askFor(2), 80);
        Check.same("what is left of the gap is too small", lab.askFor(1), 172);
        Check.same("exactly a gap", fillsAGap(12), 80);
        Check.same("one byte more", fillsAGap(13), 160);
    }

    /** The gap has room for 12 bytes between its walls. */
    private static int fillsAGap(int size) {
        Lab lab = with(4, 12, 4, 4, 4, 16);
        lab.giveBack(80).giveBack(100).giveBack(112).giveBack(124);
        return lab.askFor(size);
    }

    private static void from68On() {
        Check.same("the first of all", new Lab().askFor(1), 68);
        Check.same("the largest", new Lab().askFor(48), 68);
        Lab lab = with(4, 4, 4, 4);
        lab.giveBack(68).giveBack(80).giveBack(92).giveBack(104);
        Check.same("again when it's gone", lab.askFor(4), 68);
    }

    private static void wallBehindIsInHeap() {
        Check.same("40 end at 219", with(48, 48).askFor(40), 180);
        Check.same("37 need as much", with(48, 48).askFor(37), 180);
        Check.same("41 would end too late", with(48, 48).askFor(41), 0);
        Check.same("48 even more", with(48, 48).askFor(48), 0);
        Check.same("4 end at 219", with(48, 48, 28).askFor(4), 216);
        Check.same("1 ends there, too", with(48, 48, 28).askFor(1), 216);
        Check.same("5 don't", with(48, 48, 28).askFor(5), 0);
        Check.same("no place behind 32", with(48, 48, 32).askFor(1), 0);
        Lab lab = with(48, 48, 40);
        Check.same("the last open byte", lab.warden.memory(219, 1), 1);
        Check.same("the wall", lab.warden.memory(220, 1), 0);
    }

    private static void nothingIsShared() {
        Check.same("two walls stand between two blocks", with(4).askFor(4), 80);
        Check.same("behind what is left of the room, too", with(1).askFor(1), 80);
        Lab lab = with(4, 4);
        for (int i = 72; i < 80; i++) {
            Check.same("byte " + i + " between them is closed", lab.warden.memory(i, 1), 0);
        }
    }

    private static void restingKeepTheirPlace() {
        Lab lab = with(4, 4, 4);
        lab.giveBack(68).giveBack(80).giveBack(92);
        Check.same("behind three that rest", lab.askFor(4), 104);
        lab.giveBack(104);
        Check.same("the first is gone", lab.askFor(4), 68);
        Lab last = with(4, 4, 4, 4);
        last.giveBack(104).giveBack(68).giveBack(80).giveBack(92);
        Check.same("the last is gone", last.askFor(4), 104);
    }

    private static void noPlaceAnswers0() {
        Lab lab = with(48, 48, 40);
        Check.same("nothing for 1", lab.askFor(1), 0);
        Check.same("nothing for 48", lab.askFor(48), 0);
        Check.same("three got", lab.warden.count(7), 3);
        Check.same("three live", lab.warden.count(5), 3);
        Check.same("no finding", lab.warden.count(3), 0);
        lab.giveBack(68);
        Check.same("nothing while it rests", lab.askFor(1), 0);
    }

    private static Lab tenBlocks() {
        return with(4, 4, 4, 4, 4, 4, 4, 4, 4, 4);
    }

    private static void tenBlocksAnswer0() {
        Check.same("the tenth", with(4, 4, 4, 4, 4, 4, 4, 4, 4).askFor(4), 176);
        Lab lab = tenBlocks();
        Check.same("the eleventh, though there is place", lab.askFor(4), 0);
        Check.same("ten got", lab.warden.count(7), 10);
        lab.giveBack(68).giveBack(80).giveBack(92);
        Check.same("those that rest count", lab.askFor(4), 0);
        lab.giveBack(104);
        Check.same("those that are gone don't", lab.askFor(4), 68);
        Check.same("ten again", lab.askFor(4), 0);
        Check.same("eleven got", lab.warden.count(7), 11);
    }

    private static void sizeBytesOpen() {
        Lab lab = new Lab();
        for (int i = 64; i < 84; i++) {
            lab.warden.poke(i, 9);
        }
        lab.askFor(10);
        for (int i = 64; i < 84; i++) {
            boolean inside = i >= 68 && i <= 77;
            Check.same("byte " + i + " open", lab.warden.memory(i, 1), inside ? 1 : 0);
            Check.same("byte " + i + " known", lab.warden.memory(i, 2), inside ? 0 : 1);
        }
    }

    private static void whatTheyHoldStays() {
        Lab lab = new Lab();
        for (int i = 64; i < 84; i++) {
            lab.warden.poke(i, i);
        }
        lab.askFor(10);
        for (int i = 64; i < 84; i++) {
            Check.same("byte " + i, lab.warden.memory(i, 0), i);
        }
    }

    private static void numbersAsTheyCome() {
        Lab lab = with(4, 49, 8, 0, 12);
        Check.same("number 1", lab.warden.block(1, 1), 4);
        Check.same("number 2: what was not got has none", lab.warden.block(2, 1), 8);
        Check.same("number 3", lab.warden.block(3, 1), 12);
        lab.giveBack(68).giveBack(80).giveBack(96);
        int address = lab.askFor(16);
        lab.giveBack(address);
        lab.askFor(4);
        Check.same("a number is never used again", lab.warden.block(5, 0), 68);
        Check.refuses("the first is gone", NoSuchElementException.class, () -> lab.warden.block(1, 0));
    }

    private static void givenBackRests() {
        Lab lab = with(1, 48);
        lab.giveBack(68);
        Check.same("the one", lab.warden.block(1, 2), 2);
        Check.same("the other lives", lab.warden.block(2, 2), 1);
        lab.giveBack(80);
        Check.same("both", lab.warden.block(2, 2), 2);
        Check.same("none lives", lab.warden.count(5), 0);
        Check.same("its address stays", lab.warden.block(2, 0), 80);
        Check.same("its size stays", lab.warden.block(2, 1), 48);
    }

    private static void givenBackCloses() {
        Lab lab = with(10, 4);
        for (int i = 64; i < 96; i++) {
            lab.warden.poke(i, i);
        }
        lab.giveBack(68);
        for (int i = 64; i < 96; i++) {
            boolean inside = i >= 68 && i <= 77;
            boolean ofTheOther = i >= 88 && i <= 91;
            Check.same("byte " + i + " open", lab.warden.memory(i, 1), ofTheOther ? 1 : 0);
            Check.same("byte " + i + " known", lab.warden.memory(i, 2), inside ? 0 : 1);
            Check.same("byte " + i + " holds what it held", lab.warden.memory(i, 0), i);
        }
    }

    private static void theFourthDrivesOneAway() {
        Lab lab = with(4, 4, 4, 4);
        lab.giveBack(68).giveBack(80).giveBack(92);
        for (int k = 1; k <= 3; k++) {
            Check.same("three may rest: " + k, lab.warden.block(k, 2), 2);
        }
        lab.giveBack(104);
        Check.refuses("the first is gone", NoSuchElementException.class, () -> lab.warden.block(1, 2));
        for (int k = 2; k <= 4; k++) {
            Check.same("the others rest: " + k, lab.warden.block(k, 2), 2);
        }
        Check.same("three rest", lab.warden.count(6), 3);
        Check.same("its bytes stay closed", lab.warden.memory(68, 1), 0);
    }

    private static void longestByRestNotByNumber() {
        Lab lab = with(4, 4, 4, 4, 4, 4);
        for (int address : new int[] {92, 68, 128, 80}) {
            lab.giveBack(address);
        }
        Check.refuses("the first given", NoSuchElementException.class, () -> lab.warden.block(3, 0));
        Check.same("number 1 still rests", lab.warden.block(1, 2), 2);
        lab.giveBack(104);
        Check.refuses("the second given", NoSuchElementException.class, () -> lab.warden.block(1, 0));
        Check.same("number 6 still rests", lab.warden.block(6, 2), 2);
        lab.giveBack(116);
        Check.refuses("the third given", NoSuchElementException.class, () -> lab.warden.block(6, 0));
        Check.same("numbers 2, 4 and 5 are left", lab.warden.block(2, 2) + lab.warden.block(4, 2) + lab.warden.block(5, 2), 6);
    }
}
