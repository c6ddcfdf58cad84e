/** Promise 7: poke gives a byte a value, whatever the byte is. */
final class Promise07PokeTest {
    public static void main(String[] args) {
        ShadowWarden warden = new ShadowWarden();
        for (int i = 0; i < 256; i++) {
            int open = warden.memory(i, 1);
            warden.poke(i, 255 - i);
            Check.same("value of " + i, warden.memory(i, 0), 255 - i);
            Check.same(i + " known", warden.memory(i, 2), 1);
            Check.same(i + " open as before", warden.memory(i, 1), open);
        }
        warden.poke(9, 3);
        Check.same("again", warden.memory(9, 0), 3);
        Check.same("its neighbour", warden.memory(8, 0), 247);
        Check.same("the other one", warden.memory(10, 0), 245);
        int[][] wrong = {{-1, 0}, {256, 0}, {0, -1}, {0, 256}, {70, Integer.MIN_VALUE}, {Integer.MAX_VALUE, 1}};
        for (int[] row : wrong) {
            Check.refuses("poke " + row[0] + ", " + row[1], IllegalArgumentException.class,
                    () -> warden.poke(row[0], row[1]));
        }
        Check.same("a refused value", warden.memory(0, 0), 255);
        Check.same("no finding", warden.count(3), 0);
        Check.finish();
    }
}
