/** Promise 6: memory tells a byte's value, whether it is open and whether it is known. */
final class Promise06MemoryTest {
    public static void main(String[] args) {
        Lab lab = new Lab();
        lab.set(1, 0xFE807F01).store(1, 8).store(1, 100).load(2, Lab.STACK).store(2, 12).set(3, 5).ask(4, 3).halt();
        lab.go(0);
        int[] due = {0x01, 0x7F, 0x80, 0xFE};
        for (int i = 0; i < 4; i++) {
            triple(lab.warden, 8 + i, due[i], 1, 1);
            triple(lab.warden, 100 + i, due[i], 0, 1);
            triple(lab.warden, 12 + i, 0, 1, 0);
        }
        triple(lab.warden, 68, 0, 1, 0);
        triple(lab.warden, 72, 0, 1, 0);
        triple(lab.warden, 73, 0, 0, 0);
        triple(lab.warden, 63, 0, 1, 1);
        triple(lab.warden, 64, 0, 0, 0);
        triple(lab.warden, 223, 0, 0, 0);
        triple(lab.warden, 224, 0, 1, 0);
        triple(lab.warden, 255, 0, 1, 0);
        int[][] wrong = {{-1, 0}, {256, 0}, {-1, 2}, {256, 2}, {0, -1}, {0, 3}, {255, 4}, {Integer.MAX_VALUE, 1}};
        for (int[] row : wrong) {
            Check.refuses("memory " + row[0] + ", " + row[1], IllegalArgumentException.class,
                    () -> lab.warden.memory(row[0], row[1]));
        }
        Check.finish();
    }

    private static void triple(ShadowWarden warden, int i, int value, int open, int known) {
        Check.same("value of " + i, warden.memory(i, 0), value);
        Check.same(i + " open", warden.memory(i, 1), open);
        Check.same(i + " known", warden.memory(i, 2), known);
    }
}
