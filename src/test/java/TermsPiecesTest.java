/** Terms: PIECES. */
final class TermsPiecesTest {
    public static void main(String[] args) {
        all().run();
    }

    static Sentences all() {
        return new Sentences().in("Terms")
                .holds("Code is translated in pieces, which are thrown away when it's changed.",
                        TermsPiecesTest::translatedAndThrownAway)
                .holds("PIECES: where the machine is to do an INSTRUCTION that isn't in the PIECE at hand",
                        TermsPiecesTest::onlyWhereOneIsToBeDone)
                .holds("(at the beginning of run,", TermsPiecesTest::atTheBeginningOfRun)
                .holds("behind a PIECE's end,", TermsPiecesTest::behindItsEnd)
                .holds("after 13 to 16),", TermsPiecesTest::afterJumps)
                .holds("the PIECE that begins there is taken,", TermsPiecesTest::theOneThatBeginsThere)
                .holds("and TRANSLATED if there is none:", TermsPiecesTest::onlyIfThereIsNone)
                .holds("it goes to the first OP 0 or 13 to 16 (with it),", TermsPiecesTest::toTheFirstThatEnds)
                .holds("or INSTRUCTION 31,", TermsPiecesTest::to31)
                .holds("or the eighth INSTRUCTION.", TermsPiecesTest::toTheEighth)
                .holds("When an INSTRUCTION is changed all PIECES with it are thrown away.", TermsPiecesTest::allWithIt);
    }

    private static void pieces(String what, Lab lab, int translated, int there) {
        Check.same(what + ", translated", lab.warden.count(8), translated);
        Check.same(what + ", there", lab.warden.count(9), there);
    }

    private static Lab allMoves() {
        Lab lab = new Lab();
        for (int i = 0; i < 32; i++) {
            lab.write(Lab.MOVE, 1, 1, 0, 1);
        }
        return lab;
    }

    /** The last instruction of the piece that begins at first, found by what throws it away. */
    private static int lastOf(int first, int place, int op) {
        int last = -1;
        for (int i = 0; i < 32; i++) {
            Lab lab = allMoves();
            lab.at(place).write(op, 2, 0, 0, 0);
            lab.warden.start(first);
            lab.warden.run(1);
            lab.warden.code(i, Lab.SET, 1, 0, 0, 1);
            if (lab.warden.count(9) == 0) {
                Check.same("instruction " + i + " follows in the piece", i, last < 0 ? first : last + 1);
                last = i;
            }
        }
        return last;
    }

    private static void translatedAndThrownAway() {
        Lab lab = allMoves();
        pieces("written", lab, 0, 0);
        lab.warden.start(0);
        lab.warden.run(1);
        pieces("done", lab, 1, 1);
        lab.at(0).set(1, 5);
        pieces("changed", lab, 1, 0);
        lab.warden.start(0);
        lab.warden.run(1);
        pieces("done again", lab, 2, 1);
        Check.same("as it is now", lab.warden.register(1, 0), 5);
    }

    private static void onlyWhereOneIsToBeDone() {
        Lab lab = allMoves();
        lab.at(0).write(Lab.CALL, 0, 0, 0, 20);
        lab.warden.start(0);
        pieces("start alone", lab, 0, 0);
        lab.warden.run(1);
        pieces("the call, not yet its target", lab, 1, 1);
        Lab eight = allMoves();
        eight.warden.start(0);
        eight.warden.run(8);
        pieces("all eight, not yet the ninth", eight, 1, 1);
        Lab refused = allMoves();
        Check.refuses("stopped", IllegalStateException.class, () -> refused.warden.run(1));
        pieces("a refused run", refused, 0, 0);
        Lab fault = new Lab();
        fault.load(1, 253);
        fault.warden.start(0);
        Check.refuses("fault", IndexOutOfBoundsException.class, () -> fault.warden.run(1));
        pieces("an instruction that faults was to be done", fault, 1, 1);
    }

    private static void atTheBeginningOfRun() {
        Lab lab = allMoves();
        lab.warden.start(0);
        for (int i = 0; i < 8; i++) {
            lab.warden.run(1);
            pieces("run " + i, lab, i + 1, i + 1);
        }
        lab.warden.start(0);
        lab.warden.run(8);
        pieces("the first is still there", lab, 8, 8);
    }

    private static void behindItsEnd() {
        Lab lab = allMoves();
        lab.warden.start(0);
        lab.warden.run(9);
        pieces("the ninth", lab, 2, 2);
        Lab round = allMoves();
        round.warden.start(30);
        round.warden.run(3);
        pieces("0 behind 31", round, 2, 2);
        Lab unequal = allMoves();
        unequal.at(2).write(Lab.BELOW, 0, 0, 0, 20);
        unequal.warden.start(0);
        unequal.warden.run(4);
        pieces("behind a jump that is not taken", unequal, 2, 2);
    }

    private static void afterJumps() {
        int[] jumps = {Lab.EQUAL, Lab.BELOW, Lab.CALL, Lab.BACK};
        for (int op : jumps) {
            Lab lab = allMoves();
            lab.at(0).set(2, 20).set(3, op == Lab.BELOW ? 21 : 20).write(op, 4, 2, 3, 20);
            lab.warden.start(0);
            lab.warden.run(3);
            Check.same("op " + op + " goes", lab.warden.count(0), 20);
            pieces("op " + op, lab, 1, 1);
            lab.warden.start(0);
            lab.warden.run(4);
            pieces("after op " + op, lab, 2, 2);
        }
        Lab back = allMoves();
        back.at(3).write(Lab.EQUAL, 0, 0, 0, 1);
        back.warden.start(0);
        back.warden.run(200);
        pieces("back into the middle of the piece at hand", back, 2, 2);
        Lab own = new Lab();
        own.write(Lab.EQUAL, 0, 0, 0, 0);
        own.warden.start(0);
        own.warden.run(200);
        pieces("back to its beginning", own, 1, 1);
    }

    private static void theOneThatBeginsThere() {
        Lab lab = allMoves();
        lab.warden.start(0);
        lab.warden.run(8);
        lab.warden.start(4);
        lab.warden.run(1);
        pieces("one with 4 that begins at 0 is not it", lab, 2, 2);
        lab.warden.start(5);
        lab.warden.run(7);
        pieces("each place has its own", lab, 3, 3);
    }

    private static void onlyIfThereIsNone() {
        Lab lab = allMoves();
        lab.warden.start(0);
        lab.warden.run(200);
        pieces("round and round", lab, 4, 4);
        lab.warden.start(8);
        lab.warden.run(200);
        pieces("again", lab, 4, 4);
        lab.at(8).write(Lab.MOVE, 1, 1, 0, 1);
        pieces("one thrown away", lab, 4, 3);
        lab.warden.start(8);
        lab.warden.run(200);
        pieces("is translated once more", lab, 5, 4);
    }

    private static void toTheFirstThatEnds() {
        for (int op = 0; op <= 18; op++) {
            boolean ends = op == Lab.HALT || op >= Lab.EQUAL && op <= Lab.BACK;
            Check.same("op " + op + " as the third", lastOf(0, 2, op), ends ? 2 : 7);
            Check.same("op " + op + " as the first", lastOf(0, 0, op), ends ? 0 : 7);
            Check.same("op " + op + " as the eighth", lastOf(0, 7, op), 7);
            Check.same("op " + op + " before it", lastOf(5, 4, op), 12);
        }
    }

    private static void to31() {
        Check.same("from 24", lastOf(24, 0, Lab.MOVE), 31);
        Check.same("from 25", lastOf(25, 0, Lab.MOVE), 31);
        Check.same("from 30", lastOf(30, 0, Lab.MOVE), 31);
        Check.same("from 31", lastOf(31, 0, Lab.MOVE), 31);
    }

    private static void toTheEighth() {
        Check.same("from 0", lastOf(0, 31, Lab.MOVE), 7);
        Check.same("from 23", lastOf(23, 0, Lab.MOVE), 30);
    }

    private static void allWithIt() {
        Lab lab = allMoves();
        lab.warden.start(0);
        for (int i = 0; i < 12; i++) {
            lab.warden.run(1);
        }
        pieces("twelve, from 0 to 11", lab, 12, 12);
        lab.at(9).halt();
        pieces("those from 2 to 9 have 9", lab, 12, 4);
        lab.at(31).halt();
        pieces("none has 31", lab, 12, 4);
        lab.at(0).halt();
        pieces("one has 0", lab, 12, 3);
        lab.at(18).halt();
        pieces("the last has 18", lab, 12, 2);
    }
}
