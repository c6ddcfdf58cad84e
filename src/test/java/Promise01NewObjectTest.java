import java.util.NoSuchElementException;

/** Promise 1: a new object. */
final class Promise01NewObjectTest {
    public static void main(String[] args) {
        all().run();
    }

    static Sentences all() {
        return new Sentences().in("Promise 1: A new object")
                .holds("`ShadowWarden()`: All as at first,", Promise01NewObjectTest::allThatCanBeSeen)
                .holds("All as at first,", Promise01NewObjectTest::nothingIsThereYet)
                .holds("All as at first,", Promise01NewObjectTest::objectsAreApart)
                .holds("at INSTRUCTION 0,", Promise01NewObjectTest::at0)
                .holds("STOPPED.", Promise01NewObjectTest::stopped);
    }

    private static String repeated(String text, int times) {
        return (" " + text).repeat(times);
    }

    private static void allThatCanBeSeen() {
        StringBuilder due = new StringBuilder();
        for (int from = 0; from < 256; from += 64) {
            due.append("bytes from ").append(from).append(repeated("0", 64)).append('\n');
            String open = from == 0 ? repeated("1", 64) : repeated("0", 64);
            if (from == 192) {
                open = repeated("0", 32) + repeated("1", 32);
            }
            due.append("open from ").append(from).append(open).append('\n');
            due.append("known from ").append(from).append(repeated(from == 0 ? "1" : "0", 64)).append('\n');
        }
        due.append("counts 0 1").append(repeated("0", 8)).append('\n');
        due.append("registers").append(repeated("0 15", 8)).append('\n');
        due.append("leaks 0 0 0 0\nfindings\nblocks\n");
        Check.same("seen", View.after(warden -> { }), due.toString());
    }

    private static void nothingIsThereYet() {
        Warden warden = new Warden();
        for (int k = -1; k <= 1; k++) {
            int number = k;
            Check.refuses("finding " + k, NoSuchElementException.class, () -> warden.finding(number, 0));
            Check.refuses("block " + k, NoSuchElementException.class, () -> warden.block(number, 3));
        }
        for (int kind = 1; kind <= 4; kind++) {
            Check.same("leaks " + kind, warden.leaks(kind), 0);
        }
        Check.same("blocks got", warden.count(7), 0);
        Check.same("pieces there", warden.count(9), 0);
    }

    private static void objectsAreApart() {
        String before = View.after(warden -> { });
        Lab one = new Lab().withBlocks(4, 8).pokeWord(0, -1);
        one.at(0).load(1, 100).halt();
        one.go(0);
        Check.same("a new one after that", View.after(warden -> { }), before);
    }

    private static void at0() {
        Check.same("at", new Warden().count(0), 0);
    }

    private static void stopped() {
        Check.same("stopped", new Warden().count(1), 1);
        Check.refuses("run(1)", IllegalStateException.class, () -> new Warden().run(1));
        Check.refuses("run(200)", IllegalStateException.class, () -> new Warden().run(200));
    }
}
