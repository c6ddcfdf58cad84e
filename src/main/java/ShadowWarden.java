import java.util.NoSuchElementException;

/**
 * A watched machine: every byte of its memory and of its registers knows whether it may be used
 * and whether it has been given a value; wrong uses are noted and the program goes on.
 */
public final class ShadowWarden {

    private static final int LARGEST_RUN = 200;

    private final Memory bytes;
    private final Registers registers;
    private final Program program;
    private final Pieces pieces;
    private final Findings findings;
    private final Heap heap;
    private final LeakScan scan;
    private final Machine machine;

    public ShadowWarden() {
        bytes = new Memory();
        registers = new Registers();
        program = new Program();
        pieces = new Pieces(program);
        findings = new Findings();
        heap = new Heap(bytes);
        scan = new LeakScan(bytes, registers, heap);
        machine = new Machine(bytes, registers, program, pieces, findings, heap);
    }

    public void code(int i, int op, int d, int a, int b, int n) throws IllegalArgumentException {
        if (!Program.has(i) || !isWithin(op, Program.LAST_OP)
                || !Registers.has(d) || !Registers.has(a) || !Registers.has(b)) {
            throw new IllegalArgumentException();
        }
        program.write(i, op, d, a, b, n);
        pieces.throwAwayWith(i);
    }

    public void start(int i) throws IllegalArgumentException {
        if (!Program.has(i)) {
            throw new IllegalArgumentException();
        }
        machine.beginAt(i);
    }

    public int run(int n) throws IllegalArgumentException, IllegalStateException, IndexOutOfBoundsException {
        if (n < 1 || n > LARGEST_RUN) {
            throw new IllegalArgumentException();
        }
        if (machine.isStopped()) {
            throw new IllegalStateException();
        }
        int done = machine.perform(n);
        if (machine.hasFaulted()) {
            throw new IndexOutOfBoundsException();
        }
        return done;
    }

    public int register(int r, int what) throws IllegalArgumentException {
        if (!Registers.has(r) || !isWithin(what, 1)) {
            throw new IllegalArgumentException();
        }
        return what == 0 ? registers.value(r) : registers.known(r);
    }

    public int memory(int i, int what) throws IllegalArgumentException {
        if (!Memory.has(i, 1) || !isWithin(what, 2)) {
            throw new IllegalArgumentException();
        }
        switch (what) {
            case 0:
                return bytes.value(i, 1);
            case 1:
                return bytes.firstClosed(i, 1) == Memory.NOWHERE ? 1 : 0;
            default:
                return bytes.known(i, 1);
        }
    }

    public void poke(int i, int v) throws IllegalArgumentException {
        if (!Memory.has(i, 1) || !isWithin(v, 255)) {
            throw new IllegalArgumentException();
        }
        bytes.put(i, 1, v, Known.ALL);
    }

    public int finding(int k, int what) throws IllegalArgumentException, NoSuchElementException {
        if (!isWithin(what, 3)) {
            throw new IllegalArgumentException();
        }
        if (!findings.has(k)) {
            throw new NoSuchElementException();
        }
        switch (what) {
            case 0:
                return findings.kind(k);
            case 1:
                return findings.instruction(k);
            case 2:
                return findings.address(k);
            default:
                return findings.times(k);
        }
    }

    public int block(int k, int what) throws IllegalArgumentException, NoSuchElementException {
        if (!isWithin(what, 3)) {
            throw new IllegalArgumentException();
        }
        int index = heap.indexOfNumber(k);
        if (index == Heap.NONE) {
            throw new NoSuchElementException();
        }
        switch (what) {
            case 0:
                return heap.address(index);
            case 1:
                return heap.size(index);
            case 2:
                return heap.isLive(index) ? 1 : 2;
            default:
                scan.make();
                return scan.verdict(index);
        }
    }

    public int leaks(int kind) throws IllegalArgumentException {
        if (kind < LeakScan.HELD || kind > LeakScan.DRAGGED) {
            throw new IllegalArgumentException();
        }
        scan.make();
        return scan.howMany(kind);
    }

    public int count(int what) {
        switch (what) {
            case 0:
                return machine.position();
            case 1:
                return machine.isStopped() ? 1 : 0;
            case 2:
                return machine.allDone();
            case 3:
                return findings.size();
            case 4:
                return findings.allTimes();
            case 5:
                return heap.there() - heap.resting();
            case 6:
                return heap.resting();
            case 7:
                return heap.everGot();
            case 8:
                return pieces.everTranslated();
            case 9:
                return pieces.there();
            default:
                return -1;
        }
    }

    private static boolean isWithin(int x, int last) {
        return x >= 0 && x <= last;
    }

    /** Which of a word's four bytes are known, as bits; the lowest bit is the lowest byte's. */
    private static final class Known {
        static final int ALL = 15;

        /** A carry can come from any lower byte, so the first unknown byte spoils all above it. */
        static int unspoiled(int known) {
            return known & ~(known + 1);
        }

        /** A known byte that is the deciding one settles the outcome whatever the other byte is. */
        static int decided(int x, int knownX, int y, int knownY, int deciding) {
            return (knownX & knownY) | (knownX & bytesThatAre(deciding, x)) | (knownY & bytesThatAre(deciding, y));
        }

        private static int bytesThatAre(int wanted, int word) {
            int bits = 0;
            for (int i = 0; i < 4; i++) {
                if (((word >> (8 * i)) & 255) == wanted) {
                    bits |= 1 << i;
                }
            }
            return bits;
        }
    }

    /** The bytes; callers ask has() before they name a place. */
    private static final class Memory {
        static final int STATIC_END = 64;
        static final int HEAP_END = 224;
        static final int NOWHERE = -1;
        private static final int END = 256;

        private final int[] values;
        private final boolean[] open;
        private final boolean[] known;

        Memory() {
            values = new int[END];
            open = new boolean[END];
            known = new boolean[END];
            for (int i = 0; i < STATIC_END; i++) {
                open[i] = true;
                known[i] = true;
            }
            for (int i = HEAP_END; i < END; i++) {
                open[i] = true;
            }
        }

        /** Written without address + width, which could wrap. */
        static boolean has(int address, int width) {
            return address >= 0 && address <= END - width;
        }

        int value(int address, int width) {
            int word = 0;
            for (int i = 0; i < width; i++) {
                word |= values[address + i] << (8 * i);
            }
            return word;
        }

        int known(int address, int width) {
            int bits = 0;
            for (int i = 0; i < width; i++) {
                if (known[address + i]) {
                    bits |= 1 << i;
                }
            }
            return bits;
        }

        int firstClosed(int address, int width) {
            for (int i = 0; i < width; i++) {
                if (!open[address + i]) {
                    return address + i;
                }
            }
            return NOWHERE;
        }

        void put(int address, int width, int word, int knownBits) {
            for (int i = 0; i < width; i++) {
                values[address + i] = (word >> (8 * i)) & 255;
                known[address + i] = ((knownBits >> i) & 1) == 1;
            }
        }

        /** What the bytes hold stays, but it counts as a value no more. */
        void forget(int address, int size, boolean nowOpen) {
            for (int i = address; i < address + size; i++) {
                open[i] = nowOpen;
                known[i] = false;
            }
        }

        boolean isUsableWord(int address) {
            return firstClosed(address, 4) == NOWHERE && known(address, 4) == Known.ALL;
        }
    }

    private static final class Registers {
        static final int END = 8;

        private final int[] values;
        private final int[] known;

        Registers() {
            values = new int[END];
            known = new int[END];
            clear();
        }

        static boolean has(int r) {
            return r >= 0 && r < END;
        }

        void clear() {
            for (int r = 0; r < END; r++) {
                values[r] = 0;
                known[r] = Known.ALL;
            }
        }

        int value(int r) {
            return values[r];
        }

        int known(int r) {
            return known[r];
        }

        boolean isKnown(int r) {
            return known[r] == Known.ALL;
        }

        void put(int r, int value, int knownBits) {
            if (r != 0) {
                values[r] = value;
                known[r] = knownBits;
            }
        }
    }

    /** The instructions, as they were written last. */
    private static final class Program {
        static final int END = 32;
        static final int HALT = 0;
        static final int SET = 1;
        static final int MOVE = 2;
        static final int ADD = 3;
        static final int SUBTRACT = 4;
        static final int MULTIPLY = 5;
        static final int AND = 6;
        static final int OR = 7;
        static final int XOR = 8;
        static final int LOAD_WORD = 9;
        static final int LOAD_BYTE = 10;
        static final int STORE_WORD = 11;
        static final int STORE_BYTE = 12;
        static final int EQUAL = 13;
        static final int BELOW = 14;
        static final int CALL = 15;
        static final int BACK = 16;
        static final int ASK = 17;
        static final int GIVE = 18;
        static final int LAST_OP = GIVE;

        private final int[] ops;
        private final int[] targets;
        private final int[] firsts;
        private final int[] seconds;
        private final int[] numbers;

        Program() {
            ops = new int[END];
            targets = new int[END];
            firsts = new int[END];
            seconds = new int[END];
            numbers = new int[END];
        }

        static boolean has(int i) {
            return i >= 0 && i < END;
        }

        void write(int i, int op, int d, int a, int b, int n) {
            ops[i] = op;
            targets[i] = d;
            firsts[i] = a;
            seconds[i] = b;
            numbers[i] = n;
        }

        int op(int i) {
            return ops[i];
        }

        int d(int i) {
            return targets[i];
        }

        int a(int i) {
            return firsts[i];
        }

        int b(int i) {
            return seconds[i];
        }

        int n(int i) {
            return numbers[i];
        }

        boolean endsPiece(int i) {
            return ops[i] == HALT || (ops[i] >= EQUAL && ops[i] <= BACK) || i == END - 1;
        }
    }

    /** The translated pieces, each under the instruction where it begins. */
    private static final class Pieces {
        private static final int LONGEST = 8;

        private final Program program;
        private final int[] lengths;
        private int translated;
        private int leftOfPieceAtHand;

        Pieces(Program program) {
            this.program = program;
            lengths = new int[Program.END];
        }

        void putAway() {
            leftOfPieceAtHand = 0;
        }

        /** All that jumps ends its piece, so within a piece the next instruction is always the next one. */
        void reach(int i) {
            if (leftOfPieceAtHand == 0) {
                if (lengths[i] == 0) {
                    lengths[i] = lengthFrom(i);
                    translated++;
                }
                leftOfPieceAtHand = lengths[i];
            }
            leftOfPieceAtHand--;
        }

        private int lengthFrom(int first) {
            int length = 1;
            while (length < LONGEST && !program.endsPiece(first + length - 1)) {
                length++;
            }
            return length;
        }

        void throwAwayWith(int i) {
            for (int first = 0; first <= i; first++) {
                if (first + lengths[first] > i) {
                    lengths[first] = 0;
                }
            }
        }

        int everTranslated() {
            return translated;
        }

        int there() {
            int many = 0;
            for (int first = 0; first < Program.END; first++) {
                if (lengths[first] > 0) {
                    many++;
                }
            }
            return many;
        }
    }

    /** The wrong uses, one row for a kind at an instruction. */
    private static final class Findings {
        static final int LOADING_CLOSED = 1;
        static final int STORING_CLOSED = 2;
        static final int UNKNOWN_USED = 3;
        static final int UNKNOWN_ADDRESS = 4;
        static final int GIVING_NO_BLOCK = 5;
        static final int GIVING_RESTING = 6;
        private static final int MOST = 24;

        private final int[] kinds;
        private final int[] instructions;
        private final int[] addresses;
        private final int[] times;
        private int size;

        Findings() {
            kinds = new int[MOST];
            instructions = new int[MOST];
            addresses = new int[MOST];
            times = new int[MOST];
        }

        void note(int kind, int instruction, int address) {
            for (int k = 0; k < size; k++) {
                if (kinds[k] == kind && instructions[k] == instruction) {
                    times[k]++;
                    return;
                }
            }
            if (size < MOST) {
                kinds[size] = kind;
                instructions[size] = instruction;
                addresses[size] = address;
                times[size] = 1;
                size++;
            }
        }

        boolean has(int k) {
            return k >= 0 && k < size;
        }

        int kind(int k) {
            return kinds[k];
        }

        int instruction(int k) {
            return instructions[k];
        }

        int address(int k) {
            return addresses[k];
        }

        int times(int k) {
            return times[k];
        }

        int size() {
            return size;
        }

        int allTimes() {
            int all = 0;
            for (int k = 0; k < size; k++) {
                all += times[k];
            }
            return all;
        }
    }

    /** The blocks that live or rest, in the order of their numbers; gone ones are taken out. */
    private static final class Heap {
        static final int MOST = 10;
        static final int NONE = -1;
        private static final int LARGEST = 48;
        private static final int WALL = 4;
        private static final int MOST_RESTING = 3;

        private final Memory bytes;
        private final int[] numbers;
        private final int[] addresses;
        private final int[] sizes;
        private final int[] wallEnds;
        private final int[] restingSince;
        private int there;
        private int got;
        private int givenBack;

        Heap(Memory bytes) {
            this.bytes = bytes;
            numbers = new int[MOST];
            addresses = new int[MOST];
            sizes = new int[MOST];
            wallEnds = new int[MOST];
            restingSince = new int[MOST];
        }

        /** The address of a new block, or 0. */
        int ask(int wanted) {
            if (wanted < 1 || wanted > LARGEST || there == MOST) {
                return 0;
            }
            int room = (wanted + 3) / 4 * 4;
            int address = placeFor(room);
            if (address != 0) {
                add(address, wanted, address + room + WALL);
                bytes.forget(address, wanted, true);
            }
            return address;
        }

        private int placeFor(int room) {
            for (int address = Memory.STATIC_END + WALL; address + room + WALL <= Memory.HEAP_END; address += 4) {
                if (isFree(address - WALL, address + room + WALL)) {
                    return address;
                }
            }
            return 0;
        }

        private boolean isFree(int from, int end) {
            for (int i = 0; i < there; i++) {
                if (from < wallEnds[i] && addresses[i] - WALL < end) {
                    return false;
                }
            }
            return true;
        }

        private void add(int address, int wanted, int wallEnd) {
            got++;
            numbers[there] = got;
            addresses[there] = address;
            sizes[there] = wanted;
            wallEnds[there] = wallEnd;
            restingSince[there] = 0;
            there++;
        }

        void giveBack(int index) {
            givenBack++;
            restingSince[index] = givenBack;
            bytes.forget(addresses[index], sizes[index], false);
            if (resting() > MOST_RESTING) {
                remove(longestResting());
            }
        }

        private int longestResting() {
            int longest = NONE;
            for (int i = 0; i < there; i++) {
                if (!isLive(i) && (longest == NONE || restingSince[i] < restingSince[longest])) {
                    longest = i;
                }
            }
            return longest;
        }

        private void remove(int index) {
            if (index == NONE) {
                return;
            }
            there--;
            for (int i = index; i < there; i++) {
                numbers[i] = numbers[i + 1];
                addresses[i] = addresses[i + 1];
                sizes[i] = sizes[i + 1];
                wallEnds[i] = wallEnds[i + 1];
                restingSince[i] = restingSince[i + 1];
            }
        }

        int indexOfNumber(int number) {
            for (int i = 0; i < there; i++) {
                if (numbers[i] == number) {
                    return i;
                }
            }
            return NONE;
        }

        int indexOfAddress(int address) {
            for (int i = 0; i < there; i++) {
                if (addresses[i] == address) {
                    return i;
                }
            }
            return NONE;
        }

        int indexOfLiveAround(int address) {
            for (int i = 0; i < there; i++) {
                if (isLive(i) && address >= addresses[i] && address < addresses[i] + sizes[i]) {
                    return i;
                }
            }
            return NONE;
        }

        boolean isLive(int index) {
            return restingSince[index] == 0;
        }

        int address(int index) {
            return addresses[index];
        }

        int size(int index) {
            return sizes[index];
        }

        int end(int index) {
            return addresses[index] + sizes[index];
        }

        int there() {
            return there;
        }

        int resting() {
            int many = 0;
            for (int i = 0; i < there; i++) {
                if (!isLive(i)) {
                    many++;
                }
            }
            return many;
        }

        int everGot() {
            return got;
        }
    }

    /** Finds out what still leads to the live blocks. */
    private static final class LeakScan {
        static final int HELD = 1;
        static final int DRAGGED = 4;
        private static final int UNSEEN = 0;
        private static final int DOUBTFUL = 2;
        private static final int LOST = 3;

        private final Memory bytes;
        private final Registers registers;
        private final Heap heap;
        private final int[] verdicts;
        private final int[] found;
        private int foundSize;

        LeakScan(Memory bytes, Registers registers, Heap heap) {
            this.bytes = bytes;
            this.registers = registers;
            this.heap = heap;
            verdicts = new int[Heap.MOST];
            found = new int[Heap.MOST];
        }

        void make() {
            for (int i = 0; i < heap.there(); i++) {
                verdicts[i] = UNSEEN;
            }
            foundSize = 0;
            followAll(HELD);
            followAll(DOUBTFUL);
            for (int i = 0; i < heap.there(); i++) {
                if (heap.isLive(i) && verdicts[i] == UNSEEN) {
                    loseWithAllBehind(i);
                }
            }
        }

        int verdict(int index) {
            return verdicts[index];
        }

        int howMany(int wanted) {
            int many = 0;
            for (int i = 0; i < heap.there(); i++) {
                if (verdicts[i] == wanted) {
                    many++;
                }
            }
            return many;
        }

        /** The doubtful pass goes over the held blocks again: what they lead into is doubtful. */
        private void followAll(int verdict) {
            followWords(0, Memory.STATIC_END, verdict);
            for (int r = 0; r < Registers.END; r++) {
                if (registers.isKnown(r)) {
                    follow(registers.value(r), verdict);
                }
            }
            for (int i = 0; i < foundSize && i < Heap.MOST; i++) {
                followWords(heap.address(found[i]), heap.end(found[i]), verdict);
            }
        }

        private void followWords(int from, int end, int verdict) {
            for (int at = from; at + 4 <= end; at += 4) {
                if (bytes.isUsableWord(at)) {
                    follow(bytes.value(at, 4), verdict);
                }
            }
        }

        private void follow(int pointer, int verdict) {
            int index = heap.indexOfLiveAround(pointer);
            if (index != Heap.NONE && takes(index, pointer, verdict) && foundSize < Heap.MOST) {
                verdicts[index] = verdict;
                found[foundSize] = index;
                foundSize++;
            }
        }

        /** A block that is taken gets a verdict that keeps it from being taken twice. */
        private boolean takes(int index, int pointer, int verdict) {
            switch (verdict) {
                case HELD:
                    return verdicts[index] == UNSEEN && pointer == heap.address(index);
                case DOUBTFUL:
                    return verdicts[index] == UNSEEN;
                default:
                    return index != found[0] && (verdicts[index] == UNSEEN || verdicts[index] == LOST);
            }
        }

        private void loseWithAllBehind(int index) {
            verdicts[index] = LOST;
            found[0] = index;
            foundSize = 1;
            for (int i = 0; i < foundSize && i < Heap.MOST; i++) {
                followWords(heap.address(found[i]), heap.end(found[i]), DRAGGED);
            }
        }
    }

    /** Does the instructions and notes what is wrong with them. */
    private static final class Machine {
        private final Memory bytes;
        private final Registers registers;
        private final Program program;
        private final Pieces pieces;
        private final Findings findings;
        private final Heap heap;
        private int at;
        private int next;
        private boolean stopped;
        private boolean faulted;
        private int done;

        Machine(Memory bytes, Registers registers, Program program, Pieces pieces, Findings findings, Heap heap) {
            this.bytes = bytes;
            this.registers = registers;
            this.program = program;
            this.pieces = pieces;
            this.findings = findings;
            this.heap = heap;
            stopped = true;
        }

        void beginAt(int i) {
            at = i;
            stopped = false;
            faulted = false;
            registers.clear();
        }

        /** How many were done; hasFaulted tells whether a fault was the end. */
        int perform(int most) {
            int before = done;
            pieces.putAway();
            for (int i = 0; i < most && !stopped; i++) {
                step();
            }
            return done - before;
        }

        int position() {
            return at;
        }

        boolean isStopped() {
            return stopped;
        }

        boolean hasFaulted() {
            return faulted;
        }

        int allDone() {
            return done;
        }

        private void step() {
            pieces.reach(at);
            next = Math.floorMod(at + 1, Program.END);
            int op = program.op(at);
            if (op == Program.HALT) {
                stopped = true;
                next = at;
            } else if (op <= Program.XOR) {
                calculate(op);
            } else if (op <= Program.STORE_BYTE) {
                useMemory(op);
            } else if (op <= Program.BACK) {
                jump(op);
            } else if (op == Program.ASK) {
                ask();
            } else {
                give();
            }
            if (!faulted) {
                at = next;
                done++;
            }
        }

        private void calculate(int op) {
            int x = registers.value(program.a(at));
            int y = registers.value(program.b(at));
            int knownX = registers.known(program.a(at));
            int knownY = registers.known(program.b(at));
            switch (op) {
                case Program.SET:
                    answer(program.n(at), Known.ALL);
                    break;
                case Program.MOVE:
                    answer(x + program.n(at), Known.unspoiled(knownX));
                    break;
                case Program.ADD:
                    answer(x + y, Known.unspoiled(knownX & knownY));
                    break;
                case Program.SUBTRACT:
                    answer(x - y, Known.unspoiled(knownX & knownY));
                    break;
                case Program.MULTIPLY:
                    answer(x * y, Known.unspoiled(knownX & knownY));
                    break;
                case Program.AND:
                    answer(x & y, Known.decided(x, knownX, y, knownY, 0));
                    break;
                case Program.OR:
                    answer(x | y, Known.decided(x, knownX, y, knownY, 255));
                    break;
                default:
                    answer(x ^ y, knownX & knownY);
                    break;
            }
        }

        private void answer(int value, int known) {
            registers.put(program.d(at), value, known);
        }

        private void useMemory(int op) {
            int width = op == Program.LOAD_WORD || op == Program.STORE_WORD ? 4 : 1;
            int address = registers.value(program.a(at)) + program.n(at);
            if (!registers.isKnown(program.a(at))) {
                findings.note(Findings.UNKNOWN_ADDRESS, at, address);
            }
            if (!Memory.has(address, width)) {
                faulted = true;
                stopped = true;
            } else if (op <= Program.LOAD_BYTE) {
                load(address, width);
            } else {
                store(address, width);
            }
        }

        private void load(int address, int width) {
            noteClosed(Findings.LOADING_CLOSED, address, width);
            int value = bytes.value(address, width);
            int known = bytes.known(address, width);
            if (width == 1) {
                answer((byte) value, known == 1 ? Known.ALL : 0);
            } else {
                answer(value, known);
            }
        }

        private void store(int address, int width) {
            noteClosed(Findings.STORING_CLOSED, address, width);
            bytes.put(address, width, registers.value(program.b(at)), registers.known(program.b(at)));
        }

        private void noteClosed(int kind, int address, int width) {
            int closed = bytes.firstClosed(address, width);
            if (closed != Memory.NOWHERE) {
                findings.note(kind, at, closed);
            }
        }

        private void jump(int op) {
            int x = registers.value(program.a(at));
            int y = registers.value(program.b(at));
            int target = Math.floorMod(program.n(at), Program.END);
            switch (op) {
                case Program.EQUAL:
                    noteUnknown(true);
                    next = x == y ? target : next;
                    break;
                case Program.BELOW:
                    noteUnknown(true);
                    next = x < y ? target : next;
                    break;
                case Program.CALL:
                    answer(next, Known.ALL);
                    next = target;
                    break;
                default:
                    noteUnknown(false);
                    next = Math.floorMod(x, Program.END);
                    break;
            }
        }

        private void noteUnknown(boolean alsoOfB) {
            boolean known = registers.isKnown(program.a(at)) && (!alsoOfB || registers.isKnown(program.b(at)));
            if (!known) {
                findings.note(Findings.UNKNOWN_USED, at, registers.value(program.a(at)));
            }
        }

        private void ask() {
            noteUnknown(false);
            answer(heap.ask(registers.value(program.a(at))), Known.ALL);
        }

        private void give() {
            noteUnknown(false);
            int address = registers.value(program.a(at));
            int index = heap.indexOfAddress(address);
            if (index == Heap.NONE) {
                findings.note(Findings.GIVING_NO_BLOCK, at, address);
            } else if (!heap.isLive(index)) {
                findings.note(Findings.GIVING_RESTING, at, address);
            } else {
                heap.giveBack(index);
            }
        }
    }
}
