/** Promise 4: run does the instructions; this looks at how far it goes and at the plain ops. */
final class Promise04RunTest {
    public static void main(String[] args) {
        runDoesAtMostN();
        wrongNumbersAreRefusedBeforeTheState();
        theOpsCalculate();
        jumpsGoModulo32();
        belowHasSigns();
        wordsAreLowestByteFirst();
        registerZeroIsAlwaysZero();
        addressesWrapAndFault();
        Check.finish();
    }

    private static void runDoesAtMostN() {
        Lab lab = new Lab();
        lab.write(Lab.EQUAL, 0, 0, 0, 0);
        lab.warden.start(0);
        Check.same("run 1", lab.warden.run(1), 1);
        Check.same("run 200", lab.warden.run(200), 200);
        Check.same("all", lab.warden.count(2), 201);
        Check.same("not stopped", lab.warden.count(1), 0);
        Lab halting = new Lab();
        halting.set(1, 1).halt();
        halting.warden.start(0);
        Check.same("halt counts", halting.warden.run(2), 2);
        Check.refuses("run when halted", IllegalStateException.class, () -> halting.warden.run(1));
        Check.same("nothing done more", halting.warden.count(2), 2);
    }

    private static void wrongNumbersAreRefusedBeforeTheState() {
        ShadowWarden warden = new ShadowWarden();
        for (int n : new int[] {0, -1, 201, Integer.MIN_VALUE, Integer.MAX_VALUE}) {
            Check.refuses("run " + n + " stopped", IllegalArgumentException.class, () -> warden.run(n));
        }
        warden.start(0);
        for (int n : new int[] {0, -1, 201}) {
            Check.refuses("run " + n, IllegalArgumentException.class, () -> warden.run(n));
        }
        Check.same("nothing done", warden.count(2), 0);
        Check.same("nothing translated", warden.count(8), 0);
    }

    private static void theOpsCalculate() {
        int big = Integer.MAX_VALUE;
        int low = Integer.MIN_VALUE;
        int[][] rows = {
            {Lab.MOVE, 5, 0, -7, -2}, {Lab.MOVE, big, 0, 1, low},
            {Lab.ADD, 5, 9, 100, 14}, {Lab.ADD, big, 1, 0, low},
            {Lab.SUBTRACT, 5, 9, 100, -4}, {Lab.SUBTRACT, low, 1, 0, big},
            {Lab.MULTIPLY, -5, 9, 100, -45}, {Lab.MULTIPLY, 65536, 65536, 0, 0}, {Lab.MULTIPLY, big, 2, 0, -2},
            {Lab.AND, 12, 10, 100, 8}, {Lab.OR, 12, 10, 100, 14}, {Lab.XOR, 12, 10, 100, 6}, {Lab.XOR, -1, 10, 0, -11},
        };
        for (int[] row : rows) {
            Lab lab = new Lab();
            lab.set(1, row[1]).set(2, row[2]).write(row[0], 3, 1, 2, row[3]).halt();
            lab.go(0);
            Check.same("op " + row[0] + " of " + row[1] + " and " + row[2], lab.warden.register(3, 0), row[4]);
            Check.same("all of it known", lab.warden.register(3, 1), 15);
        }
        Lab same = new Lab();
        same.set(1, 6).write(Lab.SUBTRACT, 1, 1, 1, 0).halt();
        same.go(0);
        Check.same("d may be a and b", same.warden.register(1, 0), 0);
    }

    private static int placeAfter(int place, int op, int a, int b, int n) {
        Lab lab = new Lab();
        lab.at(0).set(1, a).set(2, b);
        lab.at(2).write(Lab.CALL, 4, 0, 0, place).at(place).write(op, 3, 1, 2, n);
        lab.warden.start(0);
        lab.warden.run(4);
        Check.same("d of op " + op, lab.warden.register(3, 0), op == Lab.CALL ? (place + 1) % 32 : 0);
        return lab.warden.count(0);
    }

    private static void jumpsGoModulo32() {
        Check.same("equal", placeAfter(9, Lab.EQUAL, 4, 4, 20), 20);
        Check.same("equal, 32", placeAfter(9, Lab.EQUAL, 4, 4, 32), 0);
        Check.same("equal, -1", placeAfter(9, Lab.EQUAL, 4, 4, -1), 31);
        Check.same("equal, least", placeAfter(9, Lab.EQUAL, 4, 4, Integer.MIN_VALUE), 0);
        Check.same("unequal", placeAfter(9, Lab.EQUAL, 4, 5, 20), 10);
        Check.same("unequal at 31", placeAfter(31, Lab.EQUAL, 4, 5, 20), 0);
        Check.same("call", placeAfter(9, Lab.CALL, 0, 0, -33), 31);
        Check.same("call at 31", placeAfter(31, Lab.CALL, 0, 0, 70), 6);
        Check.same("back", placeAfter(9, Lab.BACK, 13, 0, 99), 13);
        Check.same("back, 65", placeAfter(9, Lab.BACK, 65, 0, 99), 1);
        Check.same("back, -3", placeAfter(9, Lab.BACK, -3, 0, 99), 29);
        Check.same("no jump at 31", placeAfter(31, Lab.XOR, 0, 0, 0), 0);
    }

    private static void belowHasSigns() {
        Check.same("below", placeAfter(9, Lab.BELOW, 3, 4, 20), 20);
        Check.same("same", placeAfter(9, Lab.BELOW, 4, 4, 20), 10);
        Check.same("above", placeAfter(9, Lab.BELOW, 5, 4, 20), 10);
        Check.same("negative below", placeAfter(9, Lab.BELOW, -1, 0, 20), 20);
        Check.same("least below greatest", placeAfter(9, Lab.BELOW, Integer.MIN_VALUE, Integer.MAX_VALUE, -20), 12);
        Check.same("greatest not below least",
                placeAfter(9, Lab.BELOW, Integer.MAX_VALUE, Integer.MIN_VALUE, 20), 10);
    }

    private static void wordsAreLowestByteFirst() {
        Lab lab = new Lab();
        lab.set(1, 0x81C2A304).set(2, 10).write(Lab.STORE, 0, 2, 1, 3).write(Lab.STORE_BYTE, 0, 2, 1, 20);
        lab.load(3, 13).load(4, 14).write(Lab.LOAD_BYTE, 5, 2, 0, 6).write(Lab.LOAD_BYTE, 6, 2, 0, 20).halt();
        lab.warden.poke(17, 0x55);
        lab.go(0);
        int[] due = {0x04, 0xA3, 0xC2, 0x81};
        for (int i = 0; i < 4; i++) {
            Check.same("byte " + i, lab.warden.memory(13 + i, 0), due[i]);
        }
        Check.same("byte stored alone", lab.warden.memory(30, 0), 4);
        Check.same("nothing behind it", lab.warden.memory(31, 0), 0);
        Check.same("the word", lab.warden.register(3, 0), 0x81C2A304);
        Check.same("a byte on", lab.warden.register(4, 0), 0x5581C2A3);
        Check.same("a byte with sign", lab.warden.register(5, 0), (byte) 0x81);
        Check.same("a byte without", lab.warden.register(6, 0), 4);
    }

    private static void registerZeroIsAlwaysZero() {
        for (int op : new int[] {Lab.SET, Lab.MOVE, Lab.ADD, Lab.OR, Lab.LOAD, Lab.LOAD_BYTE, Lab.CALL, Lab.ASK}) {
            Lab lab = new Lab();
            lab.set(1, 40).at(1).write(op, 0, 1, 1, 2).halt();
            lab.pokeWord(40, 99).pokeWord(44, 99);
            lab.go(0);
            Check.same("R0 after op " + op, lab.warden.register(0, 0), 0);
            Check.same("R0 known after op " + op, lab.warden.register(0, 1), 15);
        }
        Lab lab = new Lab();
        lab.load(0, Lab.STACK).set(1, 8).ask(0, 1).halt();
        lab.go(0);
        Check.same("R0 known after unknown bytes", lab.warden.register(0, 1), 15);
        Check.same("the block came all the same", lab.warden.count(5), 1);
    }

    private static String outcomeOf(int op, int a, int n) {
        Lab lab = new Lab();
        lab.set(1, a).write(op, 2, 1, 1, n).halt();
        lab.warden.start(0);
        return Check.outcome(() -> lab.warden.run(3));
    }

    private static void addressesWrapAndFault() {
        String fault = "throws.IndexOutOfBoundsException";
        for (int op : new int[] {Lab.LOAD, Lab.STORE}) {
            Check.same("word at 252", outcomeOf(op, 250, 2), "3");
            Check.same("word at 253", outcomeOf(op, 250, 3), fault);
            Check.same("word at -1", outcomeOf(op, 3, -4), fault);
            Check.same("word at greatest", outcomeOf(op, Integer.MAX_VALUE, 0), fault);
        }
        for (int op : new int[] {Lab.LOAD_BYTE, Lab.STORE_BYTE}) {
            Check.same("byte at 255", outcomeOf(op, 250, 5), "3");
            Check.same("byte at 256", outcomeOf(op, 250, 6), fault);
            Check.same("byte at -1", outcomeOf(op, 0, -1), fault);
            Check.same("byte at least", outcomeOf(op, Integer.MIN_VALUE, 0), fault);
            Check.same("sum that wraps", outcomeOf(op, Integer.MIN_VALUE, Integer.MIN_VALUE + 9), "3");
        }
        Check.same("giving is no access", outcomeOf(Lab.GIVE, 99999, 0), "3");
    }
}
