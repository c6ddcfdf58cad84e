/** Terms: CODE and OPS, with every edge of a value, of an address and of the program. */
final class TermsOpsTest {
    private static final int LEAST = Integer.MIN_VALUE;
    private static final int GREATEST = Integer.MAX_VALUE;

    public static void main(String[] args) {
        all().run();
    }

    static Sentences all() {
        return new Sentences().in("Terms")
                .holds("CODE has INSTRUCTIONS 0 .. 31,", TermsOpsTest::instructions0To31)
                .holds("an OP, three REGISTERS d, a, b (0 .. 7)", TermsOpsTest::everyRegisterInEveryRole)
                .holds("and a number n;", TermsOpsTest::anyNumber)
                .holds("HALT at first.", TermsOpsTest::haltAtFirst)
                .holds("OPS (ints, wrapping;", TermsOpsTest::intsWrap)
                .holds("then one INSTRUCTION on, if nothing else is said):", TermsOpsTest::oneInstructionOn)
                .holds("0 HALT: the machine STOPS.", TermsOpsTest::haltStops)
                .holds("1 SET d to n, KNOWN.", TermsOpsTest::setIsKnown)
                .holds("2 MOVE: d is a plus n.", TermsOpsTest::moveAddsN)
                .holds("3 ADD, 4 SUBTRACT, 5 MULTIPLY: d is a and b so.", TermsOpsTest::addSubtractMultiply)
                .holds("6 AND, 7 OR, 8 XOR.", TermsOpsTest::andOrXor)
                .holds("9 LOAD d from the four bytes at ADDRESS a + n.", TermsOpsTest::loadWord)
                .holds("10 LOAD a byte (d is it, as a byte with sign).", TermsOpsTest::loadByteWithSign)
                .holds("11 STORE b's four bytes at a + n.", TermsOpsTest::storeWord)
                .holds("12 STORE b's lowest byte.", TermsOpsTest::storeByte)
                .holds("13 EQUAL: if a and b are, INSTRUCTION n modulo 32 follows.", TermsOpsTest::equal)
                .holds("14 BELOW: if a is below b, that.", TermsOpsTest::below)
                .holds("15 CALL: d is the number of the next INSTRUCTION (modulo 32), KNOWN;", TermsOpsTest::callKeepsNext)
                .holds("KNOWN; INSTRUCTION n modulo 32 follows.", TermsOpsTest::callGoes)
                .holds("16 BACK: INSTRUCTION a modulo 32 follows.", TermsOpsTest::backGoes)
                .holds("17 ASK: d is the ADDRESS of a new BLOCK of a bytes, or 0; KNOWN.", TermsOpsTest::askAnswers)
                .holds("18 GIVE the BLOCK at a back.", TermsOpsTest::giveGivesBack)
                .holds("INSTRUCTION 31 is followed by 0;", TermsOpsTest::thirtyOneIsFollowedBy0)
                .holds("modulo is from 0 on.", TermsOpsTest::moduloIsFrom0On);
    }

    private static void instructions0To31() {
        Lab lab = new Lab();
        for (int i = 0; i < 32; i++) {
            lab.write(Lab.MOVE, 1, 1, 0, 1 << i);
        }
        lab.warden.start(0);
        for (int i = 0; i < 32; i++) {
            Check.same("at " + i, lab.warden.count(0), i);
            lab.warden.run(1);
        }
        Check.same("each was done once", lab.warden.register(1, 0), -1);
        Check.refuses("no instruction 32", IllegalArgumentException.class, () -> lab.warden.code(32, 0, 0, 0, 0, 0));
        Check.refuses("no instruction -1", IllegalArgumentException.class, () -> lab.warden.code(-1, 0, 0, 0, 0, 0));
    }

    private static void everyRegisterInEveryRole() {
        for (int r = 0; r < 8; r++) {
            Lab lab = new Lab();
            for (int other = 1; other < 8; other++) {
                lab.set(other, 10 * other);
            }
            int d = r == 7 ? 1 : 7;
            lab.write(Lab.MOVE, d, r, 0, 1).write(Lab.SUBTRACT, d, d, r, 0).write(Lab.SET, r, 0, 0, -9).halt();
            lab.go(0);
            Check.same("r as a and as b", lab.warden.register(d, 0), 1);
            Check.same("r as d", lab.warden.register(r, 0), r == 0 ? 0 : -9);
        }
    }

    private static void anyNumber() {
        for (int n : new int[] {LEAST, LEAST + 1, -1, 0, 1, 255, 256, GREATEST - 1, GREATEST}) {
            Lab lab = new Lab();
            lab.set(1, n).halt();
            lab.go(0);
            Check.same("n", lab.warden.register(1, 0), n);
        }
    }

    private static void haltAtFirst() {
        for (int i = 0; i < 32; i++) {
            Warden warden = new Warden();
            warden.start(i);
            Check.same("run at " + i, warden.run(200), 1);
            Check.same("stopped at " + i, warden.count(1), 1);
        }
    }

    private static Lab afterOp(int op, int a, int b, int n) {
        Lab lab = new Lab();
        lab.set(1, a).set(2, b).write(op, 3, 1, 2, n).halt();
        lab.go(0);
        return lab;
    }

    private static void outcomes(int[][] rows) {
        for (int[] row : rows) {
            String what = "op " + row[0] + " of " + row[1] + ", " + row[2] + ", n " + row[3];
            Lab lab = afterOp(row[0], row[1], row[2], row[3]);
            Check.same(what, lab.warden.register(3, 0), row[4]);
            Check.same(what + ", known", lab.warden.register(3, 1), 15);
            Check.same("a stays", lab.warden.register(1, 0), row[1]);
            Check.same("b stays", lab.warden.register(2, 0), row[2]);
        }
    }

    private static void intsWrap() {
        outcomes(new int[][] {
            {Lab.MOVE, GREATEST, 0, 1, LEAST}, {Lab.MOVE, LEAST, 0, -1, GREATEST}, {Lab.MOVE, LEAST, 0, LEAST, 0},
            {Lab.ADD, GREATEST, 1, 0, LEAST}, {Lab.ADD, LEAST, -1, 0, GREATEST}, {Lab.ADD, LEAST, LEAST, 0, 0},
            {Lab.SUBTRACT, LEAST, 1, 0, GREATEST}, {Lab.SUBTRACT, GREATEST, -1, 0, LEAST},
            {Lab.SUBTRACT, 0, LEAST, 0, LEAST}, {Lab.MULTIPLY, GREATEST, 2, 0, -2}, {Lab.MULTIPLY, LEAST, -1, 0, LEAST},
            {Lab.MULTIPLY, 65536, 65536, 0, 0}, {Lab.MULTIPLY, 65536, 32768, 0, LEAST},
        });
        Lab lab = new Lab();
        lab.pokeWord(8, 77).set(1, GREATEST).write(Lab.LOAD, 2, 1, 0, LEAST + 9).halt();
        lab.go(0);
        Check.same("an address wraps, too", lab.warden.register(2, 0), 77);
    }

    private static int placeAfter(int place, int op, int a, int b, int n) {
        Lab lab = new Lab();
        lab.pokeWord(0, a).pokeWord(4, b);
        int first = place < 8 ? 10 : 0;
        lab.at(first).load(1, 0).load(2, 4).write(Lab.EQUAL, 0, 0, 0, place).at(place).write(op, 3, 1, 2, n);
        lab.warden.start(first);
        lab.warden.run(4);
        return lab.warden.count(0);
    }

    private static void oneInstructionOn() {
        int[] plain = {Lab.SET, Lab.MOVE, Lab.ADD, Lab.SUBTRACT, Lab.MULTIPLY, Lab.AND, Lab.OR, Lab.XOR, Lab.LOAD,
            Lab.LOAD_BYTE, Lab.STORE, Lab.STORE_BYTE, Lab.ASK, Lab.GIVE};
        for (int op : plain) {
            Check.same("op " + op + " at 8", placeAfter(8, op, 8, 5, 20), 9);
            Check.same("op " + op + " at 30", placeAfter(30, op, 8, 5, 20), 31);
            Check.same("op " + op + " at 31", placeAfter(31, op, 8, 5, 20), 0);
        }
        Check.same("unequal at 8", placeAfter(8, Lab.EQUAL, 8, 5, 20), 9);
        Check.same("not below at 8", placeAfter(8, Lab.BELOW, 8, 5, 20), 9);
    }

    private static void haltStops() {
        Lab lab = new Lab();
        lab.write(Lab.HALT, 1, 2, 3, 4).set(1, 5);
        lab.warden.start(0);
        Check.same("stopped before", lab.warden.count(1), 0);
        lab.warden.run(200);
        Check.same("stopped", lab.warden.count(1), 1);
        Check.same("nothing behind it is done", lab.warden.register(1, 0), 0);
    }

    private static void setIsKnown() {
        Lab lab = new Lab();
        lab.load(1, Lab.BLANK).write(Lab.SET, 1, 1, 1, -7).halt();
        lab.go(0);
        Check.same("value", lab.warden.register(1, 0), -7);
        Check.same("known", lab.warden.register(1, 1), 15);
    }

    private static void moveAddsN() {
        outcomes(new int[][] {{Lab.MOVE, 5, 9, 0, 5}, {Lab.MOVE, 5, 9, -7, -2}, {Lab.MOVE, -1, 9, 1, 0}});
        Lab lab = new Lab();
        lab.write(Lab.MOVE, 1, 1, 0, 4).write(Lab.MOVE, 1, 1, 0, 4).halt();
        lab.go(0);
        Check.same("d may be a", lab.warden.register(1, 0), 8);
    }

    private static void addSubtractMultiply() {
        outcomes(new int[][] {
            {Lab.ADD, 5, 9, 100, 14}, {Lab.ADD, -5, 5, 100, 0}, {Lab.SUBTRACT, 5, 9, 100, -4},
            {Lab.SUBTRACT, 9, 5, 100, 4}, {Lab.MULTIPLY, -5, 9, 100, -45}, {Lab.MULTIPLY, 0, 9, 100, 0},
        });
        for (int op : new int[] {Lab.ADD, Lab.SUBTRACT, Lab.MULTIPLY}) {
            Lab lab = new Lab();
            lab.set(1, 6).write(op, 1, 1, 1, 0).halt();
            lab.go(0);
            int due = op == Lab.ADD ? 12 : op == Lab.SUBTRACT ? 0 : 36;
            Check.same("op " + op + ": d may be a and b", lab.warden.register(1, 0), due);
        }
    }

    private static void andOrXor() {
        outcomes(new int[][] {
            {Lab.AND, 12, 10, 100, 8}, {Lab.OR, 12, 10, 100, 14}, {Lab.XOR, 12, 10, 100, 6},
            {Lab.AND, -1, LEAST, 100, LEAST}, {Lab.OR, 0, LEAST, 100, LEAST}, {Lab.XOR, -1, LEAST, 100, GREATEST},
            {Lab.AND, 0, -1, 100, 0}, {Lab.OR, -1, 0, 100, -1}, {Lab.XOR, -1, -1, 100, 0},
        });
    }

    private static void loadWord() {
        int[][] rows = {{0, 0}, {0, 252}, {252, 0}, {260, -8}, {-3, 4}, {250, 1}, {LEAST, LEAST}};
        for (int[] row : rows) {
            Lab lab = new Lab();
            lab.pokeWord(row[0] + row[1], 0x89ABCDEF);
            lab.set(1, row[0]).write(Lab.LOAD, 2, 1, 0, row[1]).halt();
            Check.same("goes", lab.go(0), 3);
            Check.same("from " + row[0] + " + " + row[1], lab.warden.register(2, 0), 0x89ABCDEF);
        }
        Lab same = new Lab();
        same.pokeWord(20, 55).set(1, 16).write(Lab.LOAD, 1, 1, 0, 4).halt();
        same.go(0);
        Check.same("d may be a", same.warden.register(1, 0), 55);
    }

    private static void loadByteWithSign() {
        for (int address : new int[] {0, 63, 255}) {
            for (int value : new int[] {0, 1, 127, 128, 129, 255}) {
                Lab lab = new Lab();
                lab.warden.poke(address, value);
                lab.set(1, address + 7).write(Lab.LOAD_BYTE, 2, 1, 0, -7).halt();
                lab.go(0);
                int due = value < 128 ? value : value - 256;
                Check.same(value + " at " + address, lab.warden.register(2, 0), due);
                Check.same("known", lab.warden.register(2, 1), 15);
            }
        }
    }

    private static void storing(int op, int address, int... due) {
        Lab lab = new Lab();
        for (int i = 0; i < 256; i += 1) {
            lab.warden.poke(i, 9);
        }
        lab.set(1, address - 5).set(2, 0x89ABCDEF).write(op, 3, 1, 2, 5).halt();
        lab.go(0);
        for (int i = Math.max(0, address - 4); i <= Math.min(255, address + 7); i++) {
            int inside = i - address;
            boolean stored = inside >= 0 && inside < due.length;
            Check.same("op " + op + " at " + address + ", byte " + i, lab.warden.memory(i, 0), stored ? due[inside] : 9);
        }
        Check.same("d stays", lab.warden.register(3, 0), 0);
    }

    private static void storeWord() {
        for (int address : new int[] {0, 1, 62, 226, 251, 252}) {
            storing(Lab.STORE, address, 0xEF, 0xCD, 0xAB, 0x89);
        }
    }

    private static void storeByte() {
        for (int address : new int[] {0, 1, 63, 224, 254, 255}) {
            storing(Lab.STORE_BYTE, address, 0xEF);
        }
    }

    private static final int[][] TARGETS = {{0, 0}, {20, 20}, {31, 31}, {32, 0}, {33, 1}, {63, 31}, {64, 0}, {-1, 31},
        {-31, 1}, {-32, 0}, {-33, 31}, {GREATEST, 31}, {LEAST, 0}, {LEAST + 1, 1}};

    private static void equal() {
        for (int[] target : TARGETS) {
            Check.same("equal, n " + target[0], placeAfter(9, Lab.EQUAL, 4, 4, target[0]), target[1]);
            Check.same("unequal, n " + target[0], placeAfter(9, Lab.EQUAL, 4, 5, target[0]), 10);
        }
        Check.same("least and greatest", placeAfter(9, Lab.EQUAL, LEAST, GREATEST, 20), 10);
        Check.same("one bit apart", placeAfter(9, Lab.EQUAL, 4, LEAST + 4, 20), 10);
        Check.same("least and least", placeAfter(9, Lab.EQUAL, LEAST, LEAST, 20), 20);
        Check.same("to itself", placeAfter(9, Lab.EQUAL, 0, 0, 9), 9);
    }

    private static void below() {
        for (int[] target : TARGETS) {
            Check.same("below, n " + target[0], placeAfter(9, Lab.BELOW, 3, 4, target[0]), target[1]);
            Check.same("same, n " + target[0], placeAfter(9, Lab.BELOW, 4, 4, target[0]), 10);
        }
        Check.same("above", placeAfter(9, Lab.BELOW, 5, 4, 20), 10);
        Check.same("-1 below 0", placeAfter(9, Lab.BELOW, -1, 0, 20), 20);
        Check.same("0 not below -1", placeAfter(9, Lab.BELOW, 0, -1, 20), 10);
        Check.same("least below greatest", placeAfter(9, Lab.BELOW, LEAST, GREATEST, 20), 20);
        Check.same("greatest not below least", placeAfter(9, Lab.BELOW, GREATEST, LEAST, 20), 10);
    }

    private static void callKeepsNext() {
        for (int i = 0; i < 32; i++) {
            Lab lab = new Lab();
            lab.at(i).write(Lab.CALL, 3, 0, 0, i);
            lab.warden.start(i);
            lab.warden.run(1);
            Check.same("called at " + i, lab.warden.register(3, 0), i == 31 ? 0 : i + 1);
        }
        Lab lab = new Lab();
        lab.load(3, Lab.BLANK).write(Lab.CALL, 3, 3, 3, 5);
        lab.warden.start(0);
        lab.warden.run(2);
        Check.same("known", lab.warden.register(3, 1), 15);
    }

    private static void callGoes() {
        for (int[] target : TARGETS) {
            Check.same("call, n " + target[0], placeAfter(9, Lab.CALL, 4, 4, target[0]), target[1]);
        }
    }

    private static void backGoes() {
        for (int[] target : TARGETS) {
            Check.same("back, a " + target[0], placeAfter(9, Lab.BACK, target[0], 4, 17), target[1]);
        }
        Lab lab = new Lab();
        lab.write(Lab.CALL, 1, 0, 0, 10).halt().at(10).set(2, 6).write(Lab.BACK, 0, 1, 0, 0);
        Check.same("there and back", lab.go(0), 4);
        Check.same("at the one behind the call", lab.warden.count(0), 1);
    }

    private static void askAnswers() {
        Lab lab = new Lab();
        lab.load(2, Lab.BLANK).load(3, Lab.BLANK).set(1, 5).ask(2, 1).set(1, 49).ask(3, 1).halt();
        lab.go(0);
        Check.same("the address", lab.warden.register(2, 0), 68);
        Check.same("known", lab.warden.register(2, 1), 15);
        Check.same("or 0", lab.warden.register(3, 0), 0);
        Check.same("known, too", lab.warden.register(3, 1), 15);
        Check.same("a bytes", lab.warden.block(1, 1), 5);
        Check.same("d may be a", new Lab().withBlocks(48).warden.register(1, 0), 68);
    }

    private static void giveGivesBack() {
        Lab lab = new Lab();
        lab.set(1, 5).ask(2, 1).write(Lab.GIVE, 3, 2, 1, 4).halt();
        lab.go(0);
        Check.same("it rests", lab.warden.block(1, 2), 2);
        Check.same("d stays", lab.warden.register(3, 0), 0);
        Check.same("a stays", lab.warden.register(2, 0), 68);
        Check.same("no finding", lab.warden.count(3), 0);
    }

    private static void thirtyOneIsFollowedBy0() {
        Lab lab = new Lab();
        lab.at(31).set(1, 3).set(2, 4);
        lab.warden.start(31);
        lab.warden.run(1);
        Check.same("at 0", lab.warden.count(0), 0);
        lab.warden.run(1);
        Check.same("0 is done", lab.warden.register(2, 0), 4);
        Check.same("in one run, too", placeAfter(31, Lab.BELOW, 5, 4, 20), 0);
    }

    private static void moduloIsFrom0On() {
        Check.same("n -1", placeAfter(9, Lab.EQUAL, 4, 4, -1), 31);
        Check.same("n -32", placeAfter(9, Lab.CALL, 4, 4, -32), 0);
        Check.same("a -31", placeAfter(9, Lab.BACK, -31, 4, 0), 1);
        Check.same("a least", placeAfter(9, Lab.BACK, LEAST, 4, 0), 0);
    }
}
