/** Promise 5: register tells a register's value and which of its bytes are known. */
final class Promise05RegisterTest {
    public static void main(String[] args) {
        Lab lab = new Lab();
        lab.warden.poke(Lab.STACK + 3, 128);
        for (int r = 0; r < 8; r++) {
            lab.set(r, -100 * r);
        }
        lab.load(6, Lab.STACK).halt();
        lab.go(0);
        for (int r = 0; r < 6; r++) {
            Check.same("value " + r, lab.warden.register(r, 0), -100 * r);
            Check.same("known " + r, lab.warden.register(r, 1), 15);
        }
        Check.same("highest byte's value", lab.warden.register(6, 0), Integer.MIN_VALUE);
        Check.same("highest byte's bit", lab.warden.register(6, 1), 8);
        Check.same("the last one", lab.warden.register(7, 0), -700);
        int[][] wrong = {{-1, 0}, {8, 0}, {-1, 1}, {8, 1}, {0, -1}, {0, 2}, {7, 3}, {9, 9}, {Integer.MIN_VALUE, 0}};
        for (int[] row : wrong) {
            Check.refuses("register " + row[0] + ", " + row[1], IllegalArgumentException.class,
                    () -> lab.warden.register(row[0], row[1]));
        }
        Check.finish();
    }
}
