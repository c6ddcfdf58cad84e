/** Writes a program one instruction after another and runs it on a machine of its own. */
final class Lab {
    static final int HALT = 0;
    static final int SET = 1;
    static final int MOVE = 2;
    static final int ADD = 3;
    static final int SUBTRACT = 4;
    static final int MULTIPLY = 5;
    static final int AND = 6;
    static final int OR = 7;
    static final int XOR = 8;
    static final int LOAD = 9;
    static final int LOAD_BYTE = 10;
    static final int STORE = 11;
    static final int STORE_BYTE = 12;
    static final int EQUAL = 13;
    static final int BELOW = 14;
    static final int CALL = 15;
    static final int BACK = 16;
    static final int ASK = 17;
    static final int GIVE = 18;

    static final int STACK = 224;

    /** The last word of the stack, which nothing here writes to: it stays 0 and not known. */
    static final int BLANK = 252;

    final Warden warden;
    private int next = 0;

    Lab() {
        this(new Warden());
    }

    Lab(Warden warden) {
        this.warden = warden;
    }

    Lab at(int i) {
        next = i;
        return this;
    }

    Lab write(int op, int d, int a, int b, int n) {
        warden.code(next, op, d, a, b, n);
        next = (next + 1) % 32;
        return this;
    }

    Lab set(int d, int n) {
        return write(SET, d, 0, 0, n);
    }

    /** Four bytes from an address, with R0 as base. */
    Lab load(int d, int address) {
        return write(LOAD, d, 0, 0, address);
    }

    Lab store(int b, int address) {
        return write(STORE, 0, 0, b, address);
    }

    Lab ask(int d, int a) {
        return write(ASK, d, a, 0, 0);
    }

    Lab give(int a) {
        return write(GIVE, 0, a, 0, 0);
    }

    Lab halt() {
        return write(HALT, 0, 0, 0, 0);
    }

    /** Starts at i and runs up to 200 instructions. */
    int go(int i) {
        warden.start(i);
        return warden.run(200);
    }

    /** Registers would lead to blocks, too. */
    Lab clearRegisters() {
        warden.start(0);
        return this;
    }

    /** Puts a word into memory from outside, all of it known. */
    Lab pokeWord(int address, int word) {
        for (int i = 0; i < 4; i++) {
            warden.poke(address + i, (word >> (8 * i)) & 255);
        }
        return this;
    }

    /** A word in memory of which only the bytes of these bits are known; its bits are those of register's answer. */
    Lab plant(int address, int word, int known) {
        at(24).load(7, BLANK).set(6, word).write(XOR, 7, 7, 6, 0).store(7, address).halt();
        go(24);
        for (int i = 0; i < 4; i++) {
            if (((known >> i) & 1) == 1) {
                warden.poke(address + i, (word >> (8 * i)) & 255);
            }
        }
        return this;
    }

    /** Writes from instruction 0: registers 1, 2, .. become blocks of these sizes, then HALT; and runs it. */
    Lab withBlocks(int... sizes) {
        at(0);
        for (int i = 0; i < sizes.length; i++) {
            set(i + 1, sizes[i]).ask(i + 1, i + 1);
        }
        halt();
        go(0);
        return this;
    }

    /** One instruction that gives the block at this address back, with no other trace in the registers. */
    Lab giveBack(int address) {
        at(28).set(7, address).give(7).set(7, 0).halt();
        go(28);
        return this;
    }

    /** The address that asking for this many bytes answers; the registers are clear afterwards. */
    int askFor(int size) {
        at(28).set(7, size).ask(7, 7).halt();
        go(28);
        int address = warden.register(7, 0);
        warden.start(28);
        return address;
    }

    String finding(int k) {
        return warden.finding(k, 0) + " at " + warden.finding(k, 1) + ", " + warden.finding(k, 2)
                + ", x" + warden.finding(k, 3);
    }

    String verdicts(int blocks) {
        StringBuilder text = new StringBuilder();
        for (int k = 1; k <= blocks; k++) {
            text.append(warden.block(k, 3));
        }
        return text.toString();
    }

    String leaks() {
        return warden.leaks(1) + " " + warden.leaks(2) + " " + warden.leaks(3) + " " + warden.leaks(4);
    }
}
