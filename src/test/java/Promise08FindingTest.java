import java.util.NoSuchElementException;
import java.util.function.Consumer;

/** Promise 8: finding. */
final class Promise08FindingTest {
    public static void main(String[] args) {
        all().run();
    }

    static Sentences all() {
        return new Sentences().in("Promise 8: finding")
                .holds("FINDING k (from 0,", Promise08FindingTest::from0)
                .holds("in the order in which they came first):", Promise08FindingTest::inTheOrderTheyCame)
                .holds("its KIND (what 0),", Promise08FindingTest::kind)
                .holds("INSTRUCTION (1),", Promise08FindingTest::instruction)
                .holds("ADDRESS (2),", Promise08FindingTest::address)
                .holds("how often (3).", Promise08FindingTest::howOften)
                .holds("Not there: NoSuchElementException.", Promise08FindingTest::notThere)
                .holds("throws IllegalArgumentException, java.util.NoSuchElementException`:",
                        Promise08FindingTest::otherWhatsAreRefused);
    }

    private static Lab loads(int many) {
        Lab lab = new Lab();
        for (int i = 0; i < many; i++) {
            lab.load(1, 100 + i);
        }
        lab.halt();
        lab.go(0);
        return lab;
    }

    private static void from0() {
        Check.same("the first", loads(1).finding(0), "1 at 0, 100, x1");
        Check.same("the last of 24", loads(24).finding(23), "1 at 23, 123, x1");
        Check.refuses("-1", NoSuchElementException.class, () -> loads(1).warden.finding(-1, 0));
        Check.refuses("1", NoSuchElementException.class, () -> loads(1).warden.finding(1, 0));
    }

    private static void inTheOrderTheyCame() {
        Lab lab = new Lab();
        lab.at(20).load(1, 100).at(10).store(1, 90).give(0).load(1, 80).at(0).load(1, 70);
        for (int first : new int[] {20, 10, 0, 20, 0}) {
            lab.go(first);
        }
        Check.same("1st", lab.finding(0), "1 at 20, 100, x2");
        Check.same("2nd", lab.finding(1), "2 at 10, 90, x1");
        Check.same("3rd", lab.finding(2), "5 at 11, 0, x1");
        Check.same("4th", lab.finding(3), "1 at 12, 80, x1");
        Check.same("5th", lab.finding(4), "1 at 0, 70, x2");
        Check.same("no more", lab.warden.count(3), 5);
    }

    private static void kind() {
        Lab lab = new Lab();
        lab.load(1, Lab.BLANK).load(2, 100).store(2, 100).write(Lab.EQUAL, 0, 1, 0, 4);
        lab.write(Lab.LOAD_BYTE, 2, 1, 0, 0).give(0).set(3, 4).ask(4, 3).give(4).give(4).halt();
        lab.go(0);
        for (int k = 0; k < 6; k++) {
            Check.same("kind", lab.warden.finding(k, 0), k + 1);
        }
        Check.same("all six", lab.warden.count(3), 6);
    }

    private static void instruction() {
        for (int i = 0; i < 32; i++) {
            Lab lab = new Lab();
            lab.at(i).load(1, 64);
            lab.warden.start(i);
            lab.warden.run(1);
            Check.same("at " + i, lab.warden.finding(0, 1), i);
        }
    }

    private static void address() {
        for (int address : new int[] {64, 100, 223}) {
            Lab lab = new Lab();
            lab.write(Lab.STORE_BYTE, 0, 0, 0, address).halt();
            lab.go(0);
            Check.same("of kind 2", lab.warden.finding(0, 2), address);
        }
        for (int address : new int[] {Integer.MIN_VALUE, -1, 0, 256, Integer.MAX_VALUE}) {
            Lab lab = new Lab();
            lab.set(1, address).give(1).halt();
            lab.go(0);
            Check.same("of kind 5", lab.warden.finding(0, 2), address);
        }
    }

    private static void howOften() {
        Lab lab = new Lab();
        lab.load(1, 100).write(Lab.EQUAL, 0, 0, 0, 0);
        lab.warden.start(0);
        lab.warden.run(2);
        Check.same("once", lab.warden.finding(0, 3), 1);
        lab.warden.run(200);
        Check.same("a hundred more", lab.warden.finding(0, 3), 101);
        lab.warden.run(200);
        Check.same("and a hundred more", lab.warden.finding(0, 3), 201);
    }

    private static void notThere() {
        for (int many : new int[] {0, 1, 23, 24, 25}) {
            int[] places = {-1, Math.min(24, many), 24, 25, Integer.MIN_VALUE, Integer.MAX_VALUE};
            Lab lab = loads(many);
            for (int k : places) {
                for (int what = 0; what <= 3; what++) {
                    int asked = what;
                    Check.refuses(k + " of " + many, NoSuchElementException.class, () -> lab.warden.finding(k, asked));
                }
            }
        }
    }

    private static void otherWhatsAreRefused() {
        for (int what : new int[] {-1, 4, 5, Integer.MIN_VALUE, Integer.MAX_VALUE}) {
            Check.refuses("what " + what, IllegalArgumentException.class, () -> loads(1).warden.finding(0, what));
            Check.refuses("what " + what + ", not there", IllegalArgumentException.class,
                    () -> loads(1).warden.finding(1, what));
        }
        Consumer<Warden> some = warden -> {
            warden.code(0, Lab.LOAD, 1, 0, 0, 100);
            warden.start(0);
            warden.run(2);
        };
        View.staysAfterRefusal("finding 1", some, warden -> warden.finding(1, 0), warden -> { });
        View.staysAfterRefusal("what 4", some, warden -> warden.finding(0, 4), warden -> { });
    }
}
