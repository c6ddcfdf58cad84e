/** Promise 10: the leak scan. */
final class Promise10LeaksTest {
    private static final int BLOCK_1 = 68;
    private static final int BLOCK_2 = 92;
    private static final int BLOCK_3 = 116;
    private static final int BLOCK_4 = 140;
    private static final int BLOCK_5 = 164;

    public static void main(String[] args) {
        whatLeads();
        whatDoesNotLead();
        heldGoesOnFromHeld();
        doubtfulGoesOnAtAll();
        lostAndDragged();
        ringsAndOrder();
        theScanIsOfNow();
        tenBlocks();
        wrongKinds();
        Check.finish();
    }

    /** Five blocks of 16 bytes, with nothing that leads to them. */
    private static Lab five() {
        Lab lab = new Lab();
        for (int k = 0; k < 5; k++) {
            lab.askFor(16);
        }
        return lab;
    }

    private static void verdicts(String what, Lab lab, String due) {
        Check.same(what, lab.verdicts(5), due);
        int[] many = new int[5];
        for (int i = 0; i < 5; i++) {
            many[due.charAt(i) - '0']++;
        }
        Check.same(what + ", counted", lab.leaks(), many[1] + " " + many[2] + " " + many[3] + " " + many[4]);
    }

    private static void whatLeads() {
        verdicts("nothing", five(), "33333");
        verdicts("first word of static", five().pokeWord(0, BLOCK_2), "31333");
        verdicts("last word of static", five().pokeWord(60, BLOCK_2), "31333");
        verdicts("one byte inside", five().pokeWord(0, BLOCK_2 + 1), "32333");
        verdicts("last byte inside", five().pokeWord(0, BLOCK_2 + 15), "32333");
        verdicts("both", five().pokeWord(0, BLOCK_2 + 15).pokeWord(4, BLOCK_2), "31333");
        Lab lab = five();
        lab.at(0).set(7, BLOCK_5).set(1, BLOCK_1 + 8);
        lab.warden.start(0);
        lab.warden.run(2);
        verdicts("registers", lab, "23331");
        lab.warden.start(0);
        verdicts("registers clear", lab, "33333");
    }

    private static void whatDoesNotLead() {
        verdicts("behind the size", five().pokeWord(0, BLOCK_2 + 16), "33333");
        verdicts("before the block", five().pokeWord(0, BLOCK_2 - 1), "33333");
        verdicts("no multiple of 4", five().pokeWord(2, BLOCK_2), "33333");
        verdicts("a word of the stack", five().pokeWord(Lab.STACK, BLOCK_2), "33333");
        verdicts("a wall's word", five().pokeWord(64, BLOCK_2), "33333");
        for (int bit = 8; bit < 32; bit++) {
            verdicts("a word with bit " + bit, five().pokeWord(0, BLOCK_2 + (1 << bit)), "33333");
        }
        Lab lab = five();
        lab.at(0).load(1, Lab.STACK).write(Lab.STORE_BYTE, 0, 0, 1, 3).halt();
        lab.pokeWord(0, BLOCK_2);
        lab.go(0);
        verdicts("a word of static with an unknown byte", lab, "33333");
        lab.warden.poke(3, 0);
        verdicts("known again", lab, "31333");
        Lab unknown = five();
        unknown.at(0).load(1, Lab.STACK).halt();
        unknown.pokeWord(Lab.STACK, BLOCK_3);
        unknown.go(0);
        verdicts("a known register", unknown, "33133");
        Lab part = five();
        part.at(0).load(1, Lab.STACK).halt();
        part.warden.poke(Lab.STACK, BLOCK_3);
        part.go(0);
        Check.same("its value", part.warden.register(1, 0), BLOCK_3);
        verdicts("a register known in part", part, "33333");
        Lab tail = new Lab();
        tail.askFor(6);
        tail.askFor(4);
        tail.pokeWord(0, 68).pokeWord(72, 84);
        Check.same("a word half in the size", tail.verdicts(2), "13");
        Lab rest = five().giveBack(BLOCK_1).pokeWord(BLOCK_1, BLOCK_2).pokeWord(0, BLOCK_1);
        Check.same("from a resting one", rest.verdicts(5), "03333");
        Check.same("counted", rest.leaks(), "0 0 4 0");
    }

    private static void heldGoesOnFromHeld() {
        Lab lab = five().pokeWord(8, BLOCK_4).pokeWord(BLOCK_4 + 12, BLOCK_2).pokeWord(BLOCK_2, BLOCK_5);
        verdicts("a chain", lab, "31311");
        lab.pokeWord(BLOCK_5 + 4, BLOCK_5);
        verdicts("and a ring", lab, "31311");
        verdicts("held leads inside", five().pokeWord(8, BLOCK_4).pokeWord(BLOCK_4, BLOCK_2 + 4), "32313");
    }

    private static void doubtfulGoesOnAtAll() {
        Lab lab = five().pokeWord(8, BLOCK_4 + 2).pokeWord(BLOCK_4, BLOCK_2).pokeWord(BLOCK_2, BLOCK_5 + 3);
        verdicts("a chain of doubt", lab, "32322");
        lab.pokeWord(16, BLOCK_2);
        verdicts("held is stronger", lab, "31322");
        lab.pokeWord(BLOCK_5, BLOCK_4);
        verdicts("doubt leads not to held", lab, "31322");
        lab.pokeWord(BLOCK_2, BLOCK_5);
        verdicts("held through held", lab, "31311");
    }

    private static void lostAndDragged() {
        verdicts("lost leads to later", five().pokeWord(BLOCK_2, BLOCK_4 + 5), "33343");
        verdicts("lost leads to earlier", five().pokeWord(BLOCK_4, BLOCK_2), "34333");
        verdicts("chain backwards", five().pokeWord(BLOCK_5, BLOCK_3).pokeWord(BLOCK_3, BLOCK_1), "43433");
        verdicts("itself", five().pokeWord(BLOCK_2, BLOCK_2).pokeWord(BLOCK_2 + 4, BLOCK_2 + 4), "33333");
        verdicts("lost leads to held", five().pokeWord(0, BLOCK_1).pokeWord(BLOCK_2, BLOCK_1), "13333");
        verdicts("lost leads to doubtful", five().pokeWord(0, BLOCK_1 + 1).pokeWord(BLOCK_2, BLOCK_1), "23333");
    }

    private static void ringsAndOrder() {
        Lab ring = five().pokeWord(BLOCK_2, BLOCK_3).pokeWord(BLOCK_3, BLOCK_4).pokeWord(BLOCK_4, BLOCK_2);
        verdicts("a ring", ring, "33443");
        ring.pokeWord(BLOCK_5, BLOCK_2);
        verdicts("a ring behind a lost one", ring, "34443");
        ring.pokeWord(BLOCK_5, BLOCK_3);
        verdicts("a dragged one is not gone through again", ring, "33443");
        Lab two = five().pokeWord(BLOCK_2, BLOCK_1).pokeWord(BLOCK_3, BLOCK_1);
        verdicts("dragged by the first of two", two, "43333");
    }

    private static void theScanIsOfNow() {
        Lab lab = five().pokeWord(0, BLOCK_1);
        verdicts("held", lab, "13333");
        lab.pokeWord(0, 0);
        verdicts("held no more", lab, "33333");
        lab.giveBack(BLOCK_3);
        Check.same("resting ones are not counted", lab.leaks(), "0 0 4 0");
        Check.same("and not told", lab.verdicts(5), "33033");
    }

    /** Each leads to the one before it, so the last drags all others in the end. */
    private static void tenBlocks() {
        Lab lab = new Lab();
        for (int k = 0; k < 10; k++) {
            lab.askFor(4);
        }
        Check.same("all lost", lab.verdicts(10) + ", " + lab.leaks(), "3333333333, 0 0 10 0");
        for (int k = 1; k < 10; k++) {
            lab.pokeWord(68 + 12 * k, 68 + 12 * (k - 1));
        }
        Check.same("dragged by the last", lab.verdicts(10) + ", " + lab.leaks(), "4444444443, 0 0 1 9");
        lab.pokeWord(0, 68 + 12 * 9);
        Check.same("held by the last", lab.verdicts(10) + ", " + lab.leaks(), "1111111111, 10 0 0 0");
        lab.pokeWord(0, 69 + 12 * 9);
        Check.same("doubtful by the last", lab.verdicts(10) + ", " + lab.leaks(), "2222222222, 0 10 0 0");
        lab.giveBack(68).giveBack(80).giveBack(92).giveBack(104);
        Check.same("the first is gone", lab.leaks(), "0 6 0 0");
    }

    private static void wrongKinds() {
        ShadowWarden warden = new ShadowWarden();
        for (int kind : new int[] {0, -1, 5, Integer.MIN_VALUE, Integer.MAX_VALUE}) {
            Check.refuses("leaks " + kind, IllegalArgumentException.class, () -> warden.leaks(kind));
        }
    }
}
