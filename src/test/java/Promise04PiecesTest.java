/** Promise 4, with "PIECES": when code is translated, and what throws pieces away. */
final class Promise04PiecesTest {
    public static void main(String[] args) {
        aPieceIsAtMostEightLong();
        jumpsAndHaltEndAPiece();
        instruction31EndsAPiece();
        everyRunBeginsAPiece();
        aJumpIntoThePieceAtHandTakesItsOwn();
        nothingIsTranslatedAhead();
        changesThrowAway();
        Check.finish();
    }

    private static void pieces(String what, Lab lab, int translated, int there) {
        Check.same(what + ", translated", lab.warden.count(8), translated);
        Check.same(what + ", there", lab.warden.count(9), there);
    }

    private static Lab allMoves() {
        Lab lab = new Lab();
        for (int i = 0; i < 32; i++) {
            lab.write(Lab.MOVE, 1, 1, 0, 1);
        }
        return lab;
    }

    private static void aPieceIsAtMostEightLong() {
        Lab lab = allMoves();
        lab.warden.start(0);
        lab.warden.run(8);
        pieces("eight", lab, 1, 1);
        lab.warden.start(0);
        lab.warden.run(9);
        pieces("nine", lab, 2, 2);
        lab.warden.start(0);
        lab.warden.run(200);
        pieces("round and round", lab, 4, 4);
    }

    private static void jumpsAndHaltEndAPiece() {
        for (int op : new int[] {Lab.EQUAL, Lab.BELOW, Lab.CALL, Lab.BACK}) {
            Lab lab = allMoves();
            lab.at(0).set(2, 3).set(3, 2).write(op, 4, 2, 3, 3);
            lab.warden.start(0);
            lab.warden.run(3);
            Check.same("op " + op + " goes to 3", lab.warden.count(0), 3);
            pieces("op " + op, lab, 1, 1);
            lab.warden.start(0);
            lab.warden.run(4);
            pieces("behind op " + op, lab, 2, 2);
        }
        Lab halting = allMoves();
        halting.at(2).halt();
        halting.go(0);
        halting.warden.code(3, Lab.SET, 0, 0, 0, 0);
        pieces("3 is not in the piece", halting, 1, 1);
        halting.warden.code(2, Lab.SET, 0, 0, 0, 0);
        pieces("2 is", halting, 1, 0);
    }

    private static void instruction31EndsAPiece() {
        Lab lab = allMoves();
        lab.warden.start(28);
        lab.warden.run(4);
        pieces("28 to 31", lab, 1, 1);
        lab.warden.run(1);
        pieces("0 on", lab, 2, 2);
        lab.warden.code(0, Lab.MOVE, 1, 1, 0, 1);
        pieces("only the second has 0", lab, 2, 1);
    }

    private static void everyRunBeginsAPiece() {
        Lab lab = allMoves();
        lab.warden.start(0);
        for (int i = 0; i < 8; i++) {
            lab.warden.run(1);
        }
        pieces("one at a time", lab, 8, 8);
        lab.warden.code(7, Lab.MOVE, 1, 1, 0, 1);
        pieces("all have 7", lab, 8, 0);
    }

    private static void aJumpIntoThePieceAtHandTakesItsOwn() {
        Lab lab = allMoves();
        lab.at(3).write(Lab.EQUAL, 0, 0, 0, 1);
        lab.warden.start(0);
        lab.warden.run(4);
        pieces("before the jump's target", lab, 1, 1);
        lab.warden.run(200);
        pieces("a loop back to 1", lab, 2, 2);
    }

    private static void nothingIsTranslatedAhead() {
        Lab lab = allMoves();
        lab.at(0).write(Lab.CALL, 0, 0, 0, 20);
        lab.warden.start(0);
        pieces("start alone", lab, 0, 0);
        lab.warden.run(1);
        pieces("call alone", lab, 1, 1);
        lab.warden.run(1);
        pieces("its target", lab, 2, 2);
    }

    private static void changesThrowAway() {
        Lab lab = allMoves();
        lab.warden.start(0);
        lab.warden.run(20);
        pieces("three pieces", lab, 3, 3);
        lab.warden.code(16, Lab.MOVE, 1, 1, 0, 1);
        pieces("the third is gone", lab, 3, 2);
        lab.warden.code(7, Lab.MOVE, 1, 1, 0, 1);
        pieces("the first is gone", lab, 3, 1);
        lab.warden.code(8, Lab.HALT, 0, 0, 0, 0);
        pieces("the second is gone", lab, 3, 0);
        lab.go(0);
        pieces("translated anew", lab, 5, 2);
    }
}
