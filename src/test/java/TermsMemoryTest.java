/** Terms: MEMORY and REGISTERS, at their edges and at first. */
final class TermsMemoryTest {
    private static final int LEAST = Integer.MIN_VALUE;
    private static final int GREATEST = Integer.MAX_VALUE;

    public static void main(String[] args) {
        all().run();
    }

    static Sentences all() {
        return new Sentences().in("Terms")
                .holds("MEMORY has bytes 0 .. 255:", TermsMemoryTest::bytes0To255)
                .holds("STATIC 0 .. 63,", TermsMemoryTest::static0To63)
                .holds("HEAP 64 .. 223,", TermsMemoryTest::heap64To223)
                .holds("STACK 224 .. 255.", TermsMemoryTest::stack224To255)
                .holds("A byte is OPEN or CLOSED, and KNOWN or not:", TermsMemoryTest::allFourTogether)
                .holds("STATIC is OPEN and KNOWN at first,", () -> atFirst(0, 63, 1, 1))
                .holds("STACK is OPEN and not KNOWN,", () -> atFirst(224, 255, 1, 0))
                .holds("HEAP CLOSED and not KNOWN;", () -> atFirst(64, 223, 0, 0))
                .holds("all hold 0.", TermsMemoryTest::allHold0)
                .holds("REGISTERS R1 .. R7 are ints,", TermsMemoryTest::registersAreInts)
                .holds("of four bytes each KNOWN or not", TermsMemoryTest::eachByteByItself)
                .holds("(all KNOWN and 0 at first);", TermsMemoryTest::registersAtFirst)
                .holds("R0 is always 0 and KNOWN; what is put in it is gone.", TermsMemoryTest::registerZero)
                .holds("what is put in it is gone.", TermsMemoryTest::theRestOfTheOpIsDone)
                .holds("In words the lowest byte comes first.", TermsMemoryTest::lowestByteFirst);
    }

    private static String loading(int address) {
        Lab lab = new Lab();
        lab.write(Lab.LOAD_BYTE, 1, 0, 0, address).halt();
        lab.warden.start(0);
        return Check.outcome(() -> lab.warden.run(2)) + ", findings " + lab.warden.count(3);
    }

    private static final String CALM = "2, findings 0";
    private static final String NOTED = "2, findings 1";
    private static final String FAULT = "throws.IndexOutOfBoundsException, findings 0";

    private static void bytes0To255() {
        Check.same("loading byte 0", loading(0), CALM);
        Check.same("loading byte 255", loading(255), CALM);
        Check.same("loading byte -1", loading(-1), FAULT);
        Check.same("loading byte 256", loading(256), FAULT);
    }

    private static void static0To63() {
        Check.same("loading byte 63", loading(63), CALM);
        Check.same("loading byte 64", loading(64), NOTED);
        Check.same("byte 63 known", new Warden().memory(63, 2), 1);
        Check.same("byte 64 known", new Warden().memory(64, 2), 0);
    }

    private static void heap64To223() {
        Check.same("loading byte 64", loading(64), NOTED);
        Check.same("loading byte 223", loading(223), NOTED);
        Check.same("loading byte 224", loading(224), CALM);
        Check.same("the first block stands behind a wall from 64", new Lab().askFor(4), 68);
    }

    private static void stack224To255() {
        Check.same("loading byte 224", loading(224), CALM);
        Check.same("byte 224 known", new Warden().memory(224, 2), 0);
        Check.same("byte 223 open", new Warden().memory(223, 1), 0);
        Check.same("byte 255 open", new Warden().memory(255, 1), 1);
        Check.same("byte 255 known", new Warden().memory(255, 2), 0);
    }

    private static void allFourTogether() {
        Warden warden = new Warden();
        warden.poke(100, 1);
        int[][] rows = {{0, 1, 1}, {224, 1, 0}, {100, 0, 1}, {101, 0, 0}};
        for (int[] row : rows) {
            Check.same("byte " + row[0] + " open", warden.memory(row[0], 1), row[1]);
            Check.same("byte " + row[0] + " known", warden.memory(row[0], 2), row[2]);
        }
    }

    private static void atFirst(int first, int last, int open, int known) {
        Warden warden = new Warden();
        for (int i = first; i <= last; i++) {
            Check.same("byte " + i + " open", warden.memory(i, 1), open);
            Check.same("byte " + i + " known", warden.memory(i, 2), known);
        }
    }

    private static void allHold0() {
        Warden warden = new Warden();
        for (int i = 0; i < 256; i++) {
            Check.same("byte " + i, warden.memory(i, 0), 0);
        }
    }

    private static void registersAreInts() {
        for (int value : new int[] {LEAST, -1, 0, 1, GREATEST}) {
            Lab lab = new Lab();
            for (int r = 1; r < 8; r++) {
                lab.set(r, value);
            }
            lab.halt();
            lab.go(0);
            for (int r = 1; r < 8; r++) {
                Check.same("R" + r, lab.warden.register(r, 0), value);
            }
        }
    }

    private static void eachByteByItself() {
        for (int known = 0; known < 16; known++) {
            Lab lab = new Lab();
            lab.plant(Lab.STACK, 0x01020304, known);
            lab.at(0).load(1, Lab.STACK).load(7, Lab.STACK).halt();
            lab.go(0);
            Check.same("R1", lab.warden.register(1, 1), known);
            Check.same("R7", lab.warden.register(7, 1), known);
            Check.same("its value is there all the same", lab.warden.register(7, 0), 0x01020304);
            Check.same("R2 is not touched", lab.warden.register(2, 1), 15);
        }
    }

    private static void registersAtFirst() {
        Warden warden = new Warden();
        for (int r = 0; r < 8; r++) {
            Check.same("R" + r, warden.register(r, 0), 0);
            Check.same("R" + r + " known", warden.register(r, 1), 15);
        }
    }

    private static void registerZero() {
        int[] all = {Lab.SET, Lab.MOVE, Lab.ADD, Lab.SUBTRACT, Lab.MULTIPLY, Lab.AND, Lab.OR, Lab.XOR, Lab.LOAD,
            Lab.LOAD_BYTE, Lab.CALL, Lab.ASK};
        for (int op : all) {
            Lab lab = new Lab();
            lab.pokeWord(40, 40).pokeWord(44, 3);
            lab.load(1, 40).load(2, 44).write(op, 0, 1, 2, 3).halt();
            lab.warden.start(0);
            lab.warden.run(3);
            Check.same("R0 after op " + op, lab.warden.register(0, 0), 0);
            Check.same("R0 known after op " + op, lab.warden.register(0, 1), 15);
        }
        Lab lab = new Lab();
        lab.load(1, Lab.BLANK).load(0, Lab.BLANK).write(Lab.ADD, 0, 1, 1, 0).write(Lab.LOAD_BYTE, 0, 0, 0, 230).halt();
        lab.go(0);
        Check.same("R0 known after what is not", lab.warden.register(0, 1), 15);
    }

    private static void theRestOfTheOpIsDone() {
        Lab lab = new Lab();
        lab.set(1, 8).ask(0, 1).load(0, 100).write(Lab.CALL, 0, 0, 0, 9);
        lab.warden.start(0);
        lab.warden.run(4);
        Check.same("the block came", lab.warden.block(1, 0), 68);
        Check.same("loading was noted", lab.finding(0), "1 at 2, 100, x1");
        Check.same("the call went", lab.warden.count(0), 9);
    }

    private static void lowestByteFirst() {
        Lab lab = new Lab();
        lab.set(1, 0x81C2A304).store(1, 13).load(2, 13).load(3, 14).halt();
        lab.warden.poke(17, 0x55);
        lab.go(0);
        int[] due = {0x04, 0xA3, 0xC2, 0x81};
        for (int i = 0; i < 4; i++) {
            Check.same("stored byte " + i, lab.warden.memory(13 + i, 0), due[i]);
        }
        Check.same("loaded from there", lab.warden.register(2, 0), 0x81C2A304);
        Check.same("loaded a byte on", lab.warden.register(3, 0), 0x5581C2A3);
    }
}
