/** Promise 2: code writes an instruction; wrong numbers are refused and change nothing. */
final class Promise02CodeTest {
    public static void main(String[] args) {
        everyPlaceTakesAnInstruction();
        aLaterOneReplacesAnEarlierOne();
        wrongNumbersAreRefused();
        aRefusedCallChangesNothing();
        codeLeavesTheRestAlone();
        Check.finish();
    }

    private static void everyPlaceTakesAnInstruction() {
        Lab lab = new Lab();
        for (int i = 0; i < 31; i++) {
            lab.write(Lab.MOVE, 1, 1, 0, i);
        }
        lab.write(Lab.SET, 7, 7, 7, Integer.MIN_VALUE);
        lab.warden.start(0);
        Check.same("thirty-two done", lab.warden.run(32), 32);
        Check.same("sum of all n", lab.warden.register(1, 0), 465);
        Check.same("n may be the least int", lab.warden.register(7, 0), Integer.MIN_VALUE);
    }

    private static void aLaterOneReplacesAnEarlierOne() {
        Lab lab = new Lab();
        lab.set(1, 5).halt().at(0).set(2, 6);
        lab.go(0);
        Check.same("old target", lab.warden.register(1, 0), 0);
        Check.same("new target", lab.warden.register(2, 0), 6);
    }

    private static void wrongNumbersAreRefused() {
        int[][] wrong = {
            {-1, 0, 0, 0, 0}, {32, 0, 0, 0, 0}, {Integer.MIN_VALUE, 0, 0, 0, 0}, {Integer.MAX_VALUE, 0, 0, 0, 0},
            {0, -1, 0, 0, 0}, {0, 19, 0, 0, 0}, {0, 0, -1, 0, 0}, {0, 0, 8, 0, 0},
            {0, 0, 0, -1, 0}, {0, 0, 0, 8, 0}, {0, 0, 0, 0, -1}, {0, 0, 0, 0, 8},
        };
        for (int[] row : wrong) {
            ShadowWarden warden = new ShadowWarden();
            Check.refuses("code " + java.util.Arrays.toString(row), IllegalArgumentException.class,
                    () -> warden.code(row[0], row[1], row[2], row[3], row[4], 0));
        }
        ShadowWarden warden = new ShadowWarden();
        for (int op = 0; op <= 18; op++) {
            warden.code(31, op, 7, 7, 7, Integer.MAX_VALUE);
            warden.code(0, op, 0, 0, 0, Integer.MIN_VALUE);
        }
    }

    private static void aRefusedCallChangesNothing() {
        Lab lab = new Lab();
        lab.set(1, 5).halt();
        lab.go(0);
        Check.refuses("d out of bounds", IllegalArgumentException.class, () -> lab.warden.code(0, 1, 8, 0, 0, 9));
        Check.same("the piece is still there", lab.warden.count(9), 1);
        lab.go(0);
        Check.same("the old instruction", lab.warden.register(1, 0), 5);
        Check.same("nothing translated anew", lab.warden.count(8), 1);
    }

    private static void codeLeavesTheRestAlone() {
        Lab lab = new Lab();
        lab.set(1, 5).set(2, 6).set(3, 7).halt();
        lab.warden.start(0);
        lab.warden.run(1);
        lab.at(1).set(2, 60);
        Check.same("still at 1", lab.warden.count(0), 1);
        Check.same("still not stopped", lab.warden.count(1), 0);
        Check.same("register stays", lab.warden.register(1, 0), 5);
        Check.same("goes on", lab.warden.run(200), 3);
        Check.same("with the new instruction", lab.warden.register(2, 0), 60);
    }
}
