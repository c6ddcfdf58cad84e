import java.util.Random;
import java.util.TreeMap;

/**
 * Runs of calls, chosen by a fixed seed, that the class and PlainModel must answer alike. One object may not be
 * asked for its whole state, so each run looks at a part of it at last, and some go to the end without.
 */
final class AgainstModelTest {
    private static final int RUNS = 3000;
    private static final int LOOKS = 6;
    private static final int MOST_CALLS_OF_A_LOOK = 264;
    private static final int MOST_CALLS_OF_A_STEP = 6;

    private final Random random;
    private final int run;
    private final Warden warden = new Warden();
    private final PlainModel model = new PlainModel();
    private static final TreeMap<String, Integer> SEEN = new TreeMap<>();

    private AgainstModelTest(int run) {
        this.run = run;
        random = new Random(run);
    }

    public static void main(String[] args) {
        for (int run = 0; run < RUNS; run++) {
            AgainstModelTest test = new AgainstModelTest(run);
            int look = run % LOOKS;
            test.writeCode();
            test.steps(look == 0 ? Warden.MOST_CALLS : Warden.MOST_CALLS - MOST_CALLS_OF_A_LOOK);
            test.lookAt(look);
            test.seeWhatCame();
        }
        System.out.println("seen: " + SEEN);
        // Without these the runs would be too tame to tell anything.
        String[] due = {"kind 1", "kind 2", "kind 3", "kind 4", "kind 5", "kind 6", "24 findings", "10 blocks",
            "3 resting", "verdict 1", "verdict 2", "verdict 3", "verdict 4", "throws.IndexOutOfBoundsException",
            "throws.IllegalStateException", "throws.IllegalArgumentException", "throws.NoSuchElementException"};
        for (String what : due) {
            Check.same("seen often enough: " + what, SEEN.getOrDefault(what, 0) >= 10 ? 1 : 0, 1);
        }
        Check.finish();
    }

    private static void see(String what) {
        SEEN.merge(what, 1, Integer::sum);
    }

    private void alike(String call, Check.Call real, Check.Call due) {
        String got = Check.outcome(real);
        String wanted = Check.outcome(due);
        if (wanted.startsWith("throws")) {
            see(wanted);
        }
        Check.same("run " + run + ", " + call, got, wanted);
    }

    private int pick(int... from) {
        return from[random.nextInt(from.length)];
    }

    /** Mostly within 0 .. last, now and then just outside or far off. */
    private int around(int last) {
        int chance = random.nextInt(60);
        if (chance == 0) {
            return pick(-1, last + 1, Integer.MIN_VALUE, Integer.MAX_VALUE);
        }
        return random.nextInt(last + 1);
    }

    private int someNumber(int op) {
        if (op >= 9 && op <= 12) {
            return pick(0, 0, 0, 0, 4, 4, 8, -4, 1, -1, random.nextInt(64), 224 + random.nextInt(32), random.nextInt(260));
        }
        if (op == 1) {
            return pick(random.nextInt(13), random.nextInt(50), 4 * random.nextInt(64), random.nextInt(256),
                    68 + 12 * random.nextInt(10), random.nextInt(), -1, 0, 255, 65535);
        }
        if (op == 2) {
            return pick(0, 0, 4, 1, -1, -4, 8, random.nextInt());
        }
        return pick(random.nextInt(32), random.nextInt(32), random.nextInt());
    }

    private int someOp() {
        int chance = random.nextInt(100);
        if (chance < 3) {
            return 0;
        }
        if (chance < 25) {
            return pick(1, 1, 1, 2);
        }
        if (chance < 50) {
            return pick(17, 17, 17, 18);
        }
        return random.nextInt(19);
    }

    private void writeOne(int i) {
        int op = random.nextInt(80) == 0 ? pick(-1, 19) : someOp();
        write(i, op, around(7), around(7), around(7), someNumber(op));
    }

    private void write(int i, int op, int d, int a, int b, int n) {
        alike("code(" + i + ", " + op + ", " + d + ", " + a + ", " + b + ", " + n + ")", () -> {
            warden.code(i, op, d, a, b, n);
            return 0;
        }, () -> {
            model.code(i, op, d, a, b, n);
            return 0;
        });
    }

    private void writeCode() {
        for (int i = 0; i < 32; i++) {
            writeOne(i);
        }
    }

    private void oneStep() {
        int chance = random.nextInt(100);
        if (chance < 14) {
            writeOne(around(31));
        } else if (chance < 20) {
            begin(around(31));
        } else if (chance < 50) {
            go(random.nextInt(40) == 0 ? pick(0, 201, -5) : pick(1, 2, 5, 20, 200));
        } else if (chance < 60) {
            pokeSome();
        } else if (chance < 66) {
            shortProgram();
        } else {
            ask(chance);
        }
        if (model.stopped && random.nextInt(3) > 0) {
            begin(random.nextInt(32));
        }
    }

    /** Chance alone seldom gives blocks back or brings unknown bytes to where they count. */
    private void shortProgram() {
        int i = random.nextInt(29);
        int r = 1 + random.nextInt(7);
        if (random.nextInt(3) == 0) {
            write(i, 9, r, 0, 0, pick(222, 224 + random.nextInt(29), 68 + random.nextInt(100)));
            write(i + 1, pick(9, 10, 11, 12, 13, 14, 16, 17, 18), around(7), r, around(7), random.nextInt(256));
        } else if (random.nextBoolean() && !model.live.isEmpty()) {
            write(i, 1, r, 0, 0, model.live.get(random.nextInt(model.live.size())).address);
            write(i + 1, 18, 0, r, 0, 0);
        } else {
            write(i, 1, r, 0, 0, 1 + random.nextInt(random.nextInt(48) + 1));
            write(i + 1, 17, r, r, 0, 0);
        }
        writeOne(i + 2);
        begin(i);
        go(3);
    }

    private void begin(int i) {
        alike("start(" + i + ")", () -> {
            warden.start(i);
            return 0;
        }, () -> {
            model.start(i);
            return 0;
        });
    }

    private void go(int n) {
        alike("run(" + n + ")", () -> warden.run(n), () -> model.run(n));
        see(model.findings.size() == 24 ? "24 findings" : "fewer findings");
        see(model.live.size() + model.resting.size() == 10 ? "10 blocks" : "fewer blocks");
        see(model.resting.size() + " resting");
    }

    /** Either any byte, or a word that leads to a block, put where words count. */
    private void pokeSome() {
        if (random.nextInt(3) == 0 || model.live.isEmpty()) {
            pokeOne(around(255), around(255));
            return;
        }
        PlainModel.Block to = model.live.get(random.nextInt(model.live.size()));
        PlainModel.Block from = model.live.get(random.nextInt(model.live.size()));
        int at = random.nextInt(4) == 0 ? 4 * random.nextInt(16) : from.address + 4 * random.nextInt(from.size / 4 + 1);
        int word = to.address + (random.nextBoolean() ? 0 : random.nextInt(to.size + 1));
        for (int i = 0; i < 4; i++) {
            pokeOne(at + i, (word >> (8 * i)) & 255);
        }
    }

    private void pokeOne(int i, int v) {
        alike("poke(" + i + ", " + v + ")", () -> {
            warden.poke(i, v);
            return 0;
        }, () -> {
            model.poke(i, v);
            return 0;
        });
    }

    private void ask(int chance) {
        int i = around(255);
        int what = around(3);
        int k = random.nextInt(4) == 0 ? around(25) : model.got - random.nextInt(12);
        int r = around(7);
        if (chance < 71) {
            alike("memory(" + i + ", " + what + ")", () -> warden.memory(i, what), () -> model.memory(i, what));
        } else if (chance < 76) {
            alike("register(" + r + ", " + what + ")", () -> warden.register(r, what), () -> model.register(r, what));
        } else if (chance < 81) {
            alike("finding(" + k + ", " + what + ")", () -> warden.finding(k, what), () -> model.finding(k, what));
        } else if (chance < 88) {
            alike("block(" + k + ", " + what + ")", () -> warden.block(k, what), () -> model.block(k, what));
        } else if (chance < 94) {
            alike("leaks(" + what + ")", () -> warden.leaks(what), () -> model.leaks(what));
        } else {
            int of = around(10);
            alike("count(" + of + ")", () -> warden.count(of), () -> model.count(of));
        }
    }

    private void steps(int calls) {
        while (warden.calls() <= calls - MOST_CALLS_OF_A_STEP) {
            oneStep();
        }
    }

    private void lookAt(int part) {
        if (part == 1) {
            lookAtMemory(0, 87);
        } else if (part == 2) {
            lookAtMemory(88, 175);
        } else if (part == 3) {
            lookAtMemory(176, 255);
        } else if (part == 4) {
            lookAtFindingsAndBlocks();
        } else if (part == 5) {
            lookAtRegistersAndCounts();
        }
    }

    private void lookAtMemory(int first, int last) {
        for (int i = 3 * first; i < 3 * (last + 1); i++) {
            int at = i / 3;
            int what = i % 3;
            alike("at last memory(" + at + ", " + what + ")", () -> warden.memory(at, what), () -> model.memory(at, what));
        }
    }

    private void lookAtFindingsAndBlocks() {
        for (int i = 0; i < 26 * 4; i++) {
            int k = i / 4;
            int what = i % 4;
            alike("at last finding(" + k + ", " + what + ")",
                    () -> warden.finding(k, what), () -> model.finding(k, what));
            int number = model.got - k;
            alike("at last block(" + number + ", " + what + ")",
                    () -> warden.block(number, what), () -> model.block(number, what));
        }
    }

    private void lookAtRegistersAndCounts() {
        for (int i = 0; i < 16; i++) {
            int r = i / 2;
            int what = i % 2;
            alike("at last register(" + r + ", " + what + ")",
                    () -> warden.register(r, what), () -> model.register(r, what));
            int of = i - 2;
            alike("at last count(" + of + ")", () -> warden.count(of), () -> model.count(of));
        }
    }

    private void seeWhatCame() {
        model.findings.forEach(finding -> see("kind " + finding.kind));
        model.live.forEach(block -> see("verdict " + model.block(block.number, 3)));
    }
}
