/** Terms: KNOWN in outcomes. */
final class TermsKnownTest {
    private static final int X = 232;
    private static final int Y = 236;

    public static void main(String[] args) {
        all().run();
    }

    static Sentences all() {
        return new Sentences().in("Terms")
                .holds("KNOWN in outcomes: of MOVE, ADD, SUBTRACT and MULTIPLY a byte is if it and all lower ones are "
                        + "in a and b", TermsKnownTest::lowerOnesCount)
                .holds("(MOVE: in a).", TermsKnownTest::moveLooksAtAOnly)
                .holds("XOR: if it's in both.", TermsKnownTest::xorNeedsBoth)
                .holds("AND: if it's in both, or in one of them where it is 0;", TermsKnownTest::andIsDecidedBy0)
                .holds("OR: likewise, 255.", TermsKnownTest::orIsDecidedBy255)
                .holds("LOADED bytes are as they are in MEMORY;", TermsKnownTest::loadedAsInMemory)
                .holds("a byte LOADED alone: all four as it.", TermsKnownTest::loadedAlone)
                .holds("STORED ones are as in b.", TermsKnownTest::storedAsInB);
    }

    private static Lab after(int op, int x, int knownX, int y, int knownY, int n) {
        Lab lab = new Lab();
        lab.plant(X, x, knownX).plant(Y, y, knownY);
        lab.at(0).load(1, X).load(2, Y).write(op, 3, 1, 2, n).halt();
        lab.go(0);
        Check.same("x known as planned", lab.warden.register(1, 1), knownX);
        Check.same("y known as planned", lab.warden.register(2, 1), knownY);
        return lab;
    }

    private static void known(int op, int x, int knownX, int y, int knownY, int due) {
        String what = "op " + op + " of " + x + "/" + knownX + " and " + y + "/" + knownY;
        Check.same(what, after(op, x, knownX, y, knownY, 3).warden.register(3, 1), due);
    }

    /** 0 if the lowest is not known, up to 15 if all are. */
    private static int downToTheLowest(int bits) {
        int ones = 0;
        for (int i = 0; i < 4 && ((bits >> i) & 1) == 1; i++) {
            ones |= 1 << i;
        }
        return ones;
    }

    private static void lowerOnesCount() {
        for (int x = 0; x < 16; x++) {
            for (int y = 0; y < 16; y++) {
                for (int op : new int[] {Lab.ADD, Lab.SUBTRACT, Lab.MULTIPLY}) {
                    known(op, 0x01020304, x, 0x10, y, downToTheLowest(x & y));
                }
            }
        }
        known(Lab.MULTIPLY, 0, 15, 0x01020304, 0, 0);
        known(Lab.SUBTRACT, 7, 8, 7, 8, 0);
        Check.same("the value comes all the same", after(Lab.ADD, 300, 0, -301, 0, 0).warden.register(3, 0), -1);
    }

    private static void moveLooksAtAOnly() {
        for (int x = 0; x < 16; x++) {
            known(Lab.MOVE, 0x01020304, x, 0, 0, downToTheLowest(x));
            known(Lab.MOVE, 0x01020304, x, 0, 15, downToTheLowest(x));
        }
        Check.same("with n 0, too", after(Lab.MOVE, 5, 14, 0, 15, 0).warden.register(3, 1), 0);
    }

    private static void xorNeedsBoth() {
        for (int x = 0; x < 16; x++) {
            for (int y = 0; y < 16; y++) {
                known(Lab.XOR, 0x00FF00FF, x, -1, y, x & y);
            }
        }
        Lab lab = new Lab();
        lab.load(1, Lab.BLANK).write(Lab.XOR, 1, 1, 1, 0).halt();
        lab.go(0);
        Check.same("with itself it's still not known", lab.warden.register(1, 1), 0);
    }

    private static void andIsDecidedBy0() {
        for (int x = 0; x < 16; x++) {
            for (int y = 0; y < 16; y++) {
                known(Lab.AND, 0x00FF0100, x, -1, y, (x & y) | (x & 9));
                known(Lab.AND, -1, x, 0x00FF0100, y, (x & y) | (y & 9));
                known(Lab.AND, 0, x, 0, y, x | y);
            }
        }
        known(Lab.AND, 0, 0, 0, 0, 0);
        for (int zeros = 0; zeros < 16; zeros++) {
            known(Lab.AND, bytes(zeros, 0, 0x01), 15, -1, 0, zeros);
            known(Lab.AND, -1, 0, bytes(zeros, 0, 0x80), 15, zeros);
        }
    }

    /** A word with this byte where the bits say so, and with the other byte elsewhere. */
    private static int bytes(int bits, int there, int elsewhere) {
        int word = 0;
        for (int i = 0; i < 4; i++) {
            word |= (((bits >> i) & 1) == 1 ? there : elsewhere) << (8 * i);
        }
        return word;
    }

    private static void orIsDecidedBy255() {
        for (int x = 0; x < 16; x++) {
            for (int y = 0; y < 16; y++) {
                known(Lab.OR, 0xFF00FEFF, x, 0, y, (x & y) | (x & 9));
                known(Lab.OR, 0, x, 0xFF00FEFF, y, (x & y) | (y & 9));
                known(Lab.OR, -1, x, -1, y, x | y);
            }
        }
        known(Lab.OR, -1, 0, -1, 0, 0);
        for (int ones = 0; ones < 16; ones++) {
            known(Lab.OR, bytes(ones, 255, 0xFE), 15, 0, 0, ones);
            known(Lab.OR, 0, 0, bytes(ones, 255, 0x7F), 15, ones);
        }
    }

    private static void loadedAsInMemory() {
        for (int bits = 0; bits < 16; bits++) {
            for (int address : new int[] {0, 60, 100, 245, 248}) {
                Lab lab = new Lab();
                lab.plant(address, 0x01020304, bits).at(0).load(1, address).halt();
                lab.go(0);
                Check.same("from " + address, lab.warden.register(1, 1), bits);
            }
        }
    }

    private static void loadedAlone() {
        for (int bits = 0; bits < 16; bits++) {
            for (int i = 0; i < 4; i++) {
                Lab lab = new Lab();
                lab.plant(X, 0x818283, bits).at(0).write(Lab.LOAD_BYTE, 1, 0, 0, X + i).halt();
                lab.go(0);
                Check.same("byte " + i + " of " + bits, lab.warden.register(1, 1), ((bits >> i) & 1) == 1 ? 15 : 0);
            }
        }
    }

    private static void storedAsInB() {
        for (int bits = 0; bits < 16; bits++) {
            for (int address : new int[] {0, 100, 241}) {
                Lab lab = new Lab();
                lab.plant(X, 0x01020304, bits).pokeWord(48, -1);
                lab.at(0).load(1, X).store(1, address).write(Lab.STORE_BYTE, 0, 0, 1, 49).halt();
                lab.go(0);
                for (int i = 0; i < 4; i++) {
                    Check.same("byte " + i, lab.warden.memory(address + i, 2), (bits >> i) & 1);
                }
                Check.same("the lowest alone", lab.warden.memory(49, 2), bits & 1);
                Check.same("the ones beside it stay known", lab.warden.memory(48, 2) + lab.warden.memory(50, 2), 2);
            }
        }
    }
}
