import java.util.ArrayList;
import java.util.List;
import java.util.NoSuchElementException;

/**
 * The document written a second time, with Java's library and with no thought of speed or room, so that
 * a slip in one of the two writings shows as a difference.
 */
final class PlainModel {
    static final class Byte8 {
        int value;
        boolean open;
        boolean known;
    }

    static final class Block {
        int number;
        int address;
        int size;
        String verdict;

        int lowestWall() {
            return address - 4;
        }

        int highestWall() {
            int room = size;
            while (room % 4 != 0) {
                room++;
            }
            return address + room + 3;
        }
    }

    record Instruction(int op, int d, int a, int b, int n) {
    }

    record Piece(int first, int last) {
    }

    static final class Finding {
        int kind;
        int instruction;
        int address;
        int times;
    }

    final Byte8[] memory = new Byte8[256];
    final Byte8[][] registers = new Byte8[8][4];
    final Instruction[] code = new Instruction[32];
    final List<Finding> findings = new ArrayList<>();
    final List<Block> live = new ArrayList<>();
    final List<Block> resting = new ArrayList<>();
    final List<Piece> pieces = new ArrayList<>();
    Piece atHand;
    int at;
    boolean stopped = true;
    int done;
    int got;
    int translated;

    PlainModel() {
        for (int i = 0; i < 256; i++) {
            memory[i] = new Byte8();
            memory[i].open = i <= 63 || i >= 224;
            memory[i].known = i <= 63;
        }
        clearRegisters();
        java.util.Arrays.fill(code, new Instruction(0, 0, 0, 0, 0));
    }

    private void clearRegisters() {
        for (Byte8[] register : registers) {
            for (int i = 0; i < 4; i++) {
                register[i] = new Byte8();
                register[i].known = true;
            }
        }
    }

    private static void need(boolean right) {
        if (!right) {
            throw new IllegalArgumentException();
        }
    }

    private static boolean between(int least, int x, int most) {
        return least <= x && x <= most;
    }

    void code(int i, int op, int d, int a, int b, int n) {
        need(between(0, i, 31) && between(0, op, 18));
        need(between(0, d, 7) && between(0, a, 7) && between(0, b, 7));
        code[i] = new Instruction(op, d, a, b, n);
        pieces.removeIf(piece -> between(piece.first, i, piece.last));
    }

    void start(int i) {
        need(between(0, i, 31));
        at = i;
        stopped = false;
        clearRegisters();
    }

    int run(int n) {
        need(between(1, n, 200));
        if (stopped) {
            throw new IllegalStateException();
        }
        atHand = null;
        int now = 0;
        while (now < n && !stopped) {
            takePiece();
            boolean ends = at == atHand.last;
            if (!instruction()) {
                stopped = true;
                throw new IndexOutOfBoundsException();
            }
            if (ends) {
                atHand = null;
            }
            now++;
            done++;
        }
        return now;
    }

    private void takePiece() {
        if (atHand != null) {
            return;
        }
        for (Piece piece : pieces) {
            if (piece.first == at) {
                atHand = piece;
                return;
            }
        }
        int last = at;
        while (last != 31 && last - at != 7 && code[last].op != 0 && !between(13, code[last].op, 16)) {
            last++;
        }
        atHand = new Piece(at, last);
        pieces.add(atHand);
        translated++;
    }

    private static int word(Byte8[] bytes) {
        long word = 0;
        for (int i = 3; i >= 0; i--) {
            word = word * 256 + bytes[i].value;
        }
        return (int) word;
    }

    private static boolean allKnown(Byte8[] bytes) {
        return bytes[0].known && bytes[1].known && bytes[2].known && bytes[3].known;
    }

    private void put(int r, int value, boolean... known) {
        if (r == 0) {
            return;
        }
        long unsigned = value & 0xFFFFFFFFL;
        for (int i = 0; i < 4; i++) {
            registers[r][i] = new Byte8();
            registers[r][i].value = (int) (unsigned % 256);
            registers[r][i].known = known[i];
            unsigned /= 256;
        }
    }

    private void note(int kind, int address) {
        for (Finding finding : findings) {
            if (finding.kind == kind && finding.instruction == at) {
                finding.times++;
                return;
            }
        }
        if (findings.size() >= 24) {
            return;
        }
        Finding finding = new Finding();
        finding.kind = kind;
        finding.instruction = at;
        finding.address = address;
        finding.times = 1;
        findings.add(finding);
    }

    /** False if it was a fault. */
    private boolean instruction() {
        Instruction now = code[at];
        Byte8[] a = registers[now.a];
        Byte8[] b = registers[now.b];
        int x = word(a);
        int y = word(b);
        int n = now.n;
        int next = (at + 1) % 32;
        int target = ((n % 32) + 32) % 32;
        if (between(13, now.op, 14) && !(allKnown(a) && allKnown(b))) {
            note(3, x);
        }
        if (between(16, now.op, 18) && !allKnown(a)) {
            note(3, x);
        }
        switch (now.op) {
            case 0 -> {
                stopped = true;
                next = at;
            }
            case 1 -> put(now.d, n, true, true, true, true);
            case 2 -> put(now.d, x + n, carried(a, a));
            case 3 -> put(now.d, x + y, carried(a, b));
            case 4 -> put(now.d, x - y, carried(a, b));
            case 5 -> put(now.d, x * y, carried(a, b));
            case 6 -> put(now.d, x & y, bitwise(a, b, 0));
            case 7 -> put(now.d, x | y, bitwise(a, b, 255));
            case 8 -> put(now.d, x ^ y, bitwise(a, b, -1));
            case 9, 10, 11, 12 -> {
                if (!access(now, a, b, x + n)) {
                    return false;
                }
            }
            case 13 -> next = x == y ? target : next;
            case 14 -> next = x < y ? target : next;
            case 15 -> {
                put(now.d, next, true, true, true, true);
                next = target;
            }
            case 16 -> next = ((x % 32) + 32) % 32;
            case 17 -> put(now.d, ask(x), true, true, true, true);
            default -> give(x);
        }
        at = next;
        return true;
    }

    private static boolean[] carried(Byte8[] a, Byte8[] b) {
        boolean[] known = new boolean[4];
        for (int i = 0; i < 4; i++) {
            known[i] = true;
            for (int lower = 0; lower <= i; lower++) {
                known[i] = known[i] && a[lower].known && b[lower].known;
            }
        }
        return known;
    }

    private static boolean[] bitwise(Byte8[] a, Byte8[] b, int deciding) {
        boolean[] known = new boolean[4];
        for (int i = 0; i < 4; i++) {
            boolean byA = a[i].known && a[i].value == deciding;
            boolean byB = b[i].known && b[i].value == deciding;
            known[i] = byA || byB || (a[i].known && b[i].known);
        }
        return known;
    }

    private boolean access(Instruction now, Byte8[] a, Byte8[] b, int address) {
        if (!allKnown(a)) {
            note(4, address);
        }
        int width = now.op == 9 || now.op == 11 ? 4 : 1;
        if (!between(0, address, 255) || !between(0, address + width - 1, 255)) {
            return false;
        }
        for (int i = address; i < address + width; i++) {
            if (!memory[i].open) {
                note(now.op <= 10 ? 1 : 2, i);
                break;
            }
        }
        if (now.op == 9) {
            Byte8[] four = {memory[address], memory[address + 1], memory[address + 2], memory[address + 3]};
            put(now.d, word(four), four[0].known, four[1].known, four[2].known, four[3].known);
        } else if (now.op == 10) {
            Byte8 one = memory[address];
            int signed = one.value >= 128 ? one.value - 256 : one.value;
            put(now.d, signed, one.known, one.known, one.known, one.known);
        } else {
            for (int i = 0; i < width; i++) {
                memory[address + i].value = b[i].value;
                memory[address + i].known = b[i].known;
            }
        }
        return true;
    }

    private List<Block> blocks() {
        List<Block> all = new ArrayList<>(live);
        all.addAll(resting);
        return all;
    }

    private int ask(int size) {
        if (!between(1, size, 48) || live.size() + resting.size() >= 10) {
            return 0;
        }
        Block block = new Block();
        block.size = size;
        for (int address = 0; address < 256; address += 4) {
            block.address = address;
            if (block.lowestWall() >= 64 && block.highestWall() <= 223 && standsAlone(block)) {
                got++;
                block.number = got;
                live.add(block);
                mark(block, true);
                return address;
            }
        }
        return 0;
    }

    private boolean standsAlone(Block block) {
        boolean[] taken = new boolean[256];
        for (Block other : blocks()) {
            for (int i = other.lowestWall(); i <= other.highestWall(); i++) {
                taken[i] = true;
            }
        }
        for (int i = block.lowestWall(); i <= block.highestWall(); i++) {
            if (taken[i]) {
                return false;
            }
        }
        return true;
    }

    private void mark(Block block, boolean open) {
        for (int i = 0; i < block.size; i++) {
            memory[block.address + i].open = open;
            memory[block.address + i].known = false;
        }
    }

    private void give(int address) {
        for (Block block : resting) {
            if (block.address == address) {
                note(6, address);
                return;
            }
        }
        for (Block block : live) {
            if (block.address == address) {
                live.remove(block);
                resting.add(block);
                mark(block, false);
                if (resting.size() > 3) {
                    resting.remove(0);
                }
                return;
            }
        }
        note(5, address);
    }

    int register(int r, int what) {
        need(between(0, r, 7) && between(0, what, 1));
        int bits = 0;
        for (int i = 0; i < 4; i++) {
            bits += registers[r][i].known ? 1 << i : 0;
        }
        return what == 0 ? word(registers[r]) : bits;
    }

    int memory(int i, int what) {
        need(between(0, i, 255) && between(0, what, 2));
        boolean bit = what == 1 ? memory[i].open : memory[i].known;
        return what == 0 ? memory[i].value : bit ? 1 : 0;
    }

    void poke(int i, int v) {
        need(between(0, i, 255) && between(0, v, 255));
        memory[i].value = v;
        memory[i].known = true;
    }

    int finding(int k, int what) {
        need(between(0, what, 3));
        if (!between(0, k, findings.size() - 1)) {
            throw new NoSuchElementException();
        }
        Finding finding = findings.get(k);
        return new int[] {finding.kind, finding.instruction, finding.address, finding.times}[what];
    }

    int block(int k, int what) {
        need(between(0, what, 3));
        scan();
        for (Block block : blocks()) {
            if (block.number == k) {
                boolean lives = live.contains(block);
                int verdict = List.of("RESTING", "HELD", "DOUBTFUL", "LOST", "DRAGGED").indexOf(block.verdict);
                return new int[] {block.address, block.size, lives ? 1 : 2, verdict}[what];
            }
        }
        throw new NoSuchElementException();
    }

    int leaks(int kind) {
        need(between(1, kind, 4));
        scan();
        String wanted = List.of("", "HELD", "DOUBTFUL", "LOST", "DRAGGED").get(kind);
        return (int) live.stream().filter(block -> block.verdict.equals(wanted)).count();
    }

    private List<Integer> wordsIn(int first, int last) {
        List<Integer> words = new ArrayList<>();
        for (int i = 0; i <= 252; i += 4) {
            Byte8[] four = {memory[i], memory[i + 1], memory[i + 2], memory[i + 3]};
            boolean open = four[0].open && four[1].open && four[2].open && four[3].open;
            if (i >= first && i + 3 <= last && open && allKnown(four)) {
                words.add(word(four));
            }
        }
        return words;
    }

    private List<Integer> wordsOf(Block block) {
        return wordsIn(block.address, block.address + block.size - 1);
    }

    private static boolean toBeginning(List<Integer> words, Block block) {
        return words.contains(block.address);
    }

    private static boolean atAll(List<Integer> words, Block block) {
        return words.stream().anyMatch(word -> between(block.address, word, block.address + block.size - 1));
    }

    private void scan() {
        live.forEach(block -> block.verdict = "");
        resting.forEach(block -> block.verdict = "RESTING");
        List<Integer> sure = wordsIn(0, 63);
        for (Byte8[] register : registers) {
            if (allKnown(register)) {
                sure.add(word(register));
            }
        }
        spread(sure, "HELD");
        spread(sure, "DOUBTFUL");
        for (Block block : live) {
            if (block.verdict.isEmpty()) {
                block.verdict = "LOST";
                drag(block, block, new ArrayList<>());
            }
        }
    }

    /** Goes round until nothing changes; words of held blocks join the sure ones on the way. */
    private void spread(List<Integer> sure, String verdict) {
        List<Integer> doubtful = new ArrayList<>(sure);
        for (int round = 0; round <= live.size(); round++) {
            for (Block block : live) {
                boolean led = verdict.equals("HELD") ? toBeginning(sure, block) : atAll(doubtful, block);
                if (block.verdict.isEmpty() && led) {
                    block.verdict = verdict;
                    (verdict.equals("HELD") ? sure : doubtful).addAll(wordsOf(block));
                }
            }
        }
    }

    private void drag(Block leader, Block from, List<Block> found) {
        for (Block block : live) {
            boolean free = block.verdict.isEmpty() || block.verdict.equals("LOST");
            if (block != leader && free && !found.contains(block) && atAll(wordsOf(from), block)) {
                block.verdict = "DRAGGED";
                found.add(block);
                drag(leader, block, found);
            }
        }
    }

    int count(int what) {
        int times = findings.stream().mapToInt(finding -> finding.times).sum();
        int[] all = {at, stopped ? 1 : 0, done, findings.size(), times, live.size(), resting.size(), got,
            translated, pieces.size()};
        return between(0, what, 9) ? all[what] : -1;
    }
}
