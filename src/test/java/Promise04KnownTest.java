/** Promise 4, with "KNOWN in outcomes": which bytes of what an op answers are known. */
final class Promise04KnownTest {
    public static void main(String[] args) {
        carriesSpoilAllAbove();
        xorNeedsBoth();
        andIsDecidedByZero();
        orIsDecidedBy255();
        loadsAndStoresCarryIt();
        setCallAndAskAreKnown();
        Check.finish();
    }

    /** A register of this value, of which only the bytes of these bits are known, made at a word of the stack. */
    private static void make(Lab lab, int r, int value, int known) {
        int at = Lab.STACK + 4 * r;
        lab.set(r, value).store(r, at);
        for (int i = 0; i < 4; i++) {
            if (((known >> i) & 1) == 0) {
                lab.load(7, Lab.STACK).set(6, (value >> (8 * i)) & 255);
                lab.write(Lab.XOR, 7, 7, 6, 0).write(Lab.STORE_BYTE, 0, 0, 7, at + i);
            }
        }
        lab.load(r, at);
    }

    private static Lab after(int op, int x, int knownX, int y, int knownY) {
        Lab lab = new Lab();
        make(lab, 1, x, knownX);
        lab.halt();
        lab.go(0);
        lab.at(0);
        make(lab, 2, y, knownY);
        lab.load(1, Lab.STACK + 4).write(op, 3, 1, 2, 0).halt();
        lab.go(0);
        Check.same("x", lab.warden.register(1, 0), x);
        Check.same("x known", lab.warden.register(1, 1), knownX);
        Check.same("y", lab.warden.register(2, 0), y);
        Check.same("y known", lab.warden.register(2, 1), knownY);
        return lab;
    }

    private static void known(int op, int x, int knownX, int y, int knownY, int due) {
        Lab lab = after(op, x, knownX, y, knownY);
        Check.same("op " + op + " of " + x + "/" + knownX + " and " + y + "/" + knownY, lab.warden.register(3, 1), due);
    }

    private static int lowestOnes(int bits) {
        int ones = 0;
        for (int i = 0; i < 4 && ((bits >> i) & 1) == 1; i++) {
            ones |= 1 << i;
        }
        return ones;
    }

    private static void carriesSpoilAllAbove() {
        for (int x = 0; x < 16; x++) {
            known(Lab.MOVE, 0x01020304, x, 0, 0, lowestOnes(x));
            for (int y = 0; y < 16; y++) {
                known(Lab.ADD, 0x01020304, x, 0, y, lowestOnes(x & y));
            }
            known(Lab.SUBTRACT, 7, x, 7, 13, lowestOnes(x & 13));
            known(Lab.MULTIPLY, 7, x, 0, 15, lowestOnes(x));
        }
    }

    private static void xorNeedsBoth() {
        for (int x = 0; x < 16; x++) {
            for (int y = 0; y < 16; y++) {
                known(Lab.XOR, 0, x, -1, y, x & y);
            }
        }
        Check.same("value", after(Lab.XOR, 0x0F0F0F0F, 0, -1, 15).warden.register(3, 0), 0xF0F0F0F0);
    }

    private static void andIsDecidedByZero() {
        known(Lab.AND, -1, 0, 0x00FF0001, 15, 10);
        known(Lab.AND, 0x00FF0001, 15, -1, 0, 10);
        known(Lab.AND, 0, 0, 0, 0, 0);
        known(Lab.AND, 0, 5, 0, 2, 7);
        known(Lab.AND, -1, 5, -1, 7, 5);
        known(Lab.AND, 0x00FF00FF, 3, -1, 0, 2);
    }

    private static void orIsDecidedBy255() {
        known(Lab.OR, 0, 0, 0x00FF00FE, 15, 4);
        known(Lab.OR, 0x00FF00FE, 15, 0, 0, 4);
        known(Lab.OR, -1, 0, -1, 0, 0);
        known(Lab.OR, -1, 5, -1, 2, 7);
        known(Lab.OR, 0, 5, 0, 7, 5);
        known(Lab.OR, 0xFF00FF00, 12, 0, 0, 8);
    }

    private static void loadsAndStoresCarryIt() {
        Lab lab = new Lab();
        lab.warden.poke(Lab.STACK + 1, 200);
        lab.warden.poke(Lab.STACK + 2, 100);
        lab.load(1, Lab.STACK).write(Lab.LOAD_BYTE, 2, 0, 0, Lab.STACK + 1).write(Lab.LOAD_BYTE, 3, 0, 0, Lab.STACK + 3);
        lab.store(1, 8).write(Lab.STORE_BYTE, 0, 0, 1, 20).write(Lab.STORE_BYTE, 0, 0, 2, Lab.STACK + 9).halt();
        lab.go(0);
        Check.same("word loaded", lab.warden.register(1, 1), 6);
        Check.same("word's value", lab.warden.register(1, 0), 0x0064C800);
        Check.same("known byte alone", lab.warden.register(2, 1), 15);
        Check.same("its value", lab.warden.register(2, 0), -56);
        Check.same("unknown byte alone", lab.warden.register(3, 1), 0);
        for (int i = 0; i < 4; i++) {
            Check.same("stored byte " + i + " known", lab.warden.memory(8 + i, 2), i == 1 || i == 2 ? 1 : 0);
            Check.same("stored byte " + i + " open", lab.warden.memory(8 + i, 1), 1);
        }
        Check.same("lowest byte stored alone isn't known", lab.warden.memory(20, 2), 0);
        Check.same("its neighbour is", lab.warden.memory(21, 2), 1);
        Check.same("stack byte stored is known", lab.warden.memory(Lab.STACK + 9, 2), 1);
        Check.same("findings of all that", lab.warden.count(3), 0);
    }

    private static void setCallAndAskAreKnown() {
        Lab lab = new Lab();
        lab.load(1, Lab.STACK).load(2, Lab.STACK).load(3, Lab.STACK).load(4, Lab.STACK);
        lab.set(1, 9).ask(3, 4).write(Lab.CALL, 2, 0, 0, 7).halt();
        lab.go(0);
        for (int r = 1; r <= 3; r++) {
            Check.same("known " + r, lab.warden.register(r, 1), 15);
        }
        Check.same("not known", lab.warden.register(4, 1), 0);
    }
}
