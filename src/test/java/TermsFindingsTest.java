/** Terms: FINDINGS and FAULT. */
final class TermsFindingsTest {
    private static final int LEAST = Integer.MIN_VALUE;
    private static final int GREATEST = Integer.MAX_VALUE;
    private static final int X = 232;

    public static void main(String[] args) {
        all().run();
    }

    static Sentences all() {
        return new Sentences().in("Terms")
                .holds("FINDINGS: a KIND at an INSTRUCTION,", TermsFindingsTest::aKindAtAnInstruction)
                .holds("with the ADDRESS of the first time", TermsFindingsTest::firstAddressStays)
                .holds("and how often.", TermsFindingsTest::howOften)
                .holds("KINDS: 1 LOADING from a CLOSED byte,", TermsFindingsTest::loadingClosed)
                .holds("2 STORING in one", TermsFindingsTest::storingClosed)
                .holds("(each once for an INSTRUCTION done;", TermsFindingsTest::onceForAnInstruction)
                .holds("the ADDRESS is that of the first such byte;", TermsFindingsTest::firstClosedByte)
                .holds("it's done all the same).", TermsFindingsTest::closedIsDoneAllTheSame)
                .holds("3: a byte of a (13, 14, 16 to 18; 13, 14: or of b) isn't KNOWN", TermsFindingsTest::unknownUsed)
                .holds("(the ADDRESS: a's value).", TermsFindingsTest::valueOfA)
                .holds("4: a byte of a isn't KNOWN in 9 to 12", TermsFindingsTest::unknownAddress)
                .holds("(the ADDRESS: a + n;", TermsFindingsTest::addressIsAPlusN)
                .holds("comes before 1 and 2).", TermsFindingsTest::fourComesFirst)
                .holds("5 GIVING what isn't the ADDRESS of a BLOCK,", TermsFindingsTest::givingNoBlock)
                .holds("6 GIVING a BLOCK that RESTS", TermsFindingsTest::givingAResting)
                .holds("(then nothing else is done).", TermsFindingsTest::wrongGiftsChangeNothing)
                .holds("At most 24 FINDINGS;", TermsFindingsTest::atMost24)
                .holds("then only those that are there count on.", TermsFindingsTest::thoseThereCountOn)
                .holds("An ADDRESS with bytes out of 0 .. 255: FAULT:", TermsFindingsTest::outOfMemory)
                .holds("FAULT: what KIND 4 says is noted,", TermsFindingsTest::faultNotesKind4)
                .holds("nothing else is done, and", TermsFindingsTest::faultDoesNothingElse)
                .holds("and the machine STOPS there.", TermsFindingsTest::faultStops);
    }

    private static String allFindings(Lab lab) {
        StringBuilder text = new StringBuilder();
        for (int k = 0; k < lab.warden.count(3); k++) {
            text.append(k == 0 ? "" : "; ").append(lab.finding(k));
        }
        return text.toString();
    }

    private static void aKindAtAnInstruction() {
        Lab lab = new Lab();
        lab.load(1, 100).store(1, 100).load(1, 100).halt();
        lab.go(0);
        Check.same("three places", allFindings(lab), "1 at 0, 100, x1; 2 at 1, 100, x1; 1 at 2, 100, x1");
        lab.at(0).store(1, 100);
        lab.go(0);
        Check.same("another kind at the same place", allFindings(lab),
                "1 at 0, 100, x1; 2 at 1, 100, x2; 1 at 2, 100, x2; 2 at 0, 100, x1");
        Lab edges = new Lab();
        edges.at(31).load(1, 100).load(1, 100).halt();
        edges.go(31);
        Check.same("the last place and the first", allFindings(edges), "1 at 31, 100, x1; 1 at 0, 100, x1");
    }

    private static void firstAddressStays() {
        Lab lab = new Lab();
        lab.set(1, 80).write(Lab.LOAD, 2, 1, 0, 0).write(Lab.MOVE, 1, 1, 0, -4).write(Lab.BELOW, 0, 0, 1, 1).halt();
        lab.go(0);
        Check.same("from 80 down to 64", lab.finding(0), "1 at 1, 80, x5");
        lab.at(1).load(2, 200);
        lab.warden.start(1);
        lab.warden.run(1);
        Check.same("changed code is the same instruction", lab.finding(0), "1 at 1, 80, x6");
    }

    private static void howOften() {
        Lab lab = new Lab();
        lab.load(1, 100).write(Lab.EQUAL, 0, 0, 0, 0);
        lab.warden.start(0);
        lab.warden.run(1);
        Check.same("once", lab.finding(0), "1 at 0, 100, x1");
        lab.warden.run(200);
        Check.same("a hundred times more", lab.finding(0), "1 at 0, 100, x101");
    }

    private static String findingsOf(int op, int n) {
        Lab lab = new Lab();
        lab.askFor(6);
        lab.at(0).write(op, 1, 0, 0, n).halt();
        lab.go(0);
        return allFindings(lab);
    }

    /** Around a block of the bytes 68 .. 73: what lies wholly in open bytes is no finding. */
    private static void edgesOfClosed(int kind, int wordOp, int byteOp) {
        int[] calmWords = {0, 60, 68, 69, 70, 224, 252};
        int[] calmBytes = {0, 63, 68, 73, 224, 255};
        int[][] wrongWords = {{61, 64}, {63, 64}, {64, 64}, {65, 65}, {67, 67}, {71, 74}, {73, 74}, {74, 74}, {220, 220},
            {221, 221}, {223, 223}};
        int[] wrongBytes = {64, 67, 74, 75, 76, 79, 80, 223};
        for (int address : calmWords) {
            Check.same("word at " + address, findingsOf(wordOp, address), "");
        }
        for (int address : calmBytes) {
            Check.same("byte at " + address, findingsOf(byteOp, address), "");
        }
        for (int[] row : wrongWords) {
            Check.same("word at " + row[0], findingsOf(wordOp, row[0]), kind + " at 0, " + row[1] + ", x1");
        }
        for (int address : wrongBytes) {
            Check.same("byte at " + address, findingsOf(byteOp, address), kind + " at 0, " + address + ", x1");
        }
    }

    private static void loadingClosed() {
        edgesOfClosed(1, Lab.LOAD, Lab.LOAD_BYTE);
    }

    private static void storingClosed() {
        edgesOfClosed(2, Lab.STORE, Lab.STORE_BYTE);
    }

    private static void onceForAnInstruction() {
        Lab lab = new Lab();
        lab.askFor(1);
        lab.at(0).load(1, 64).load(1, 67).store(1, 64).store(1, 67).halt();
        lab.go(0);
        Check.same("four closed bytes, and closed ones on both sides of an open one", allFindings(lab),
                "1 at 0, 64, x1; 1 at 1, 67, x1; 2 at 2, 64, x1; 2 at 3, 67, x1");
        lab.go(0);
        Check.same("done again", lab.finding(1), "1 at 1, 67, x2");
    }

    private static void firstClosedByte() {
        for (int from = 61; from <= 66; from++) {
            String at = " at 0, " + Math.max(64, from) + ", x1";
            Check.same("word from " + from, findingsOf(Lab.LOAD, from), 1 + at);
            Check.same("stored from " + from, findingsOf(Lab.STORE, from), 2 + at);
        }
        Check.same("behind the size", findingsOf(Lab.LOAD, 72), "1 at 0, 74, x1");
        Check.same("the last byte alone", findingsOf(Lab.LOAD, 71), "1 at 0, 74, x1");
    }

    private static void closedIsDoneAllTheSame() {
        Lab lab = new Lab();
        lab.warden.poke(100, 7);
        lab.warden.poke(223, 200);
        lab.set(1, 0x0102).store(1, 102).load(2, 100);
        lab.write(Lab.STORE_BYTE, 0, 0, 1, 64).write(Lab.LOAD_BYTE, 3, 0, 0, 223).halt();
        lab.go(0);
        Check.same("stored", lab.warden.memory(102, 0) + lab.warden.memory(103, 0), 3);
        Check.same("known as in b", lab.warden.memory(105, 2), 1);
        Check.same("closed still", lab.warden.memory(102, 1), 0);
        Check.same("loaded", lab.warden.register(2, 0), 0x01020007);
        Check.same("known as in memory", lab.warden.register(2, 1), 13);
        Check.same("a byte stored", lab.warden.memory(64, 0), 2);
        Check.same("a byte loaded", lab.warden.register(3, 0), -56);
    }

    private static Lab using(int op, int a, int knownA, int b, int knownB) {
        Lab lab = new Lab();
        lab.plant(X, a, knownA).plant(X + 4, b, knownB);
        lab.at(0).load(1, X).load(2, X + 4).write(op, 3, 1, 2, 3).halt();
        lab.warden.start(0);
        lab.warden.run(3);
        return lab;
    }

    private static void unknownUsed() {
        for (int op = 1; op <= 18; op++) {
            boolean looksAtB = op == Lab.EQUAL || op == Lab.BELOW;
            boolean looksAtA = looksAtB || op == Lab.BACK || op == Lab.ASK || op == Lab.GIVE;
            for (int known = 0; known < 16; known++) {
                String ofA = allFindings(using(op, 9, known, 9, 15));
                String ofB = allFindings(using(op, 9, 15, 9, known));
                Check.same("op " + op + ", a " + known, ofA.startsWith("3 at 2") ? 1 : 0, looksAtA && known < 15 ? 1 : 0);
                Check.same("op " + op + ", b " + known, ofB.startsWith("3 at 2") ? 1 : 0, looksAtB && known < 15 ? 1 : 0);
            }
        }
        Check.same("both of them are one", allFindings(using(Lab.EQUAL, 9, 0, 9, 0)), "3 at 2, 9, x1");
        Check.same("equal goes all the same", using(Lab.EQUAL, 9, 0, 9, 0).warden.count(0), 3);
        Check.same("back goes all the same", using(Lab.BACK, 9, 0, 0, 15).warden.count(0), 9);
        Check.same("asked all the same", using(Lab.ASK, 9, 0, 0, 15).warden.block(1, 1), 9);
        Lab lab = new Lab();
        lab.askFor(4);
        lab.plant(X, 68, 0).at(0).load(1, X).give(1).halt();
        lab.go(0);
        Check.same("given back all the same", lab.warden.block(1, 2), 2);
        Check.same("and noted", allFindings(lab), "3 at 1, 68, x1");
    }

    private static void valueOfA() {
        for (int op : new int[] {Lab.EQUAL, Lab.BELOW}) {
            for (int value : new int[] {LEAST, -8, 0, 300, GREATEST}) {
                Check.same("of a", allFindings(using(op, value, 7, 5, 15)), "3 at 2, " + value + ", x1");
                Check.same("though b is the one", allFindings(using(op, value, 15, 5, 7)), "3 at 2, " + value + ", x1");
            }
        }
        Check.same("back", allFindings(using(Lab.BACK, -8, 7, 5, 15)), "3 at 2, -8, x1");
        Check.same("ask", allFindings(using(Lab.ASK, 49, 7, 5, 15)), "3 at 2, 49, x1");
        Check.same("give, then kind 5", allFindings(using(Lab.GIVE, -8, 7, 5, 15)), "3 at 2, -8, x1; 5 at 2, -8, x1");
    }

    private static void unknownAddress() {
        for (int op = 1; op <= 18; op++) {
            boolean isOne = op >= Lab.LOAD && op <= Lab.STORE_BYTE;
            for (int known = 0; known < 16; known++) {
                String ofA = allFindings(using(op, 9, known, 9, 15));
                Check.same("op " + op + ", a " + known, ofA.contains("4 at 2, 12") ? 1 : 0, isOne && known < 15 ? 1 : 0);
                String ofB = allFindings(using(op, 9, 15, 9, known));
                Check.same("op " + op + ", b " + known, ofB.contains("4 at 2") ? 1 : 0, 0);
            }
        }
        Check.same("loaded all the same", using(Lab.LOAD, X + 1, 0, 77, 15).warden.register(3, 0), 77);
        Check.same("stored all the same", using(Lab.STORE, 9, 0, 77, 15).warden.memory(12, 0), 77);
    }

    private static void addressIsAPlusN() {
        Lab lab = new Lab();
        lab.plant(X, GREATEST, 7).at(0).load(1, X).write(Lab.LOAD, 2, 1, 0, LEAST + 9);
        lab.write(Lab.STORE_BYTE, 0, 1, 0, LEAST + 41).halt();
        lab.go(0);
        Check.same("sums that wrap", allFindings(lab), "4 at 1, 8, x1; 4 at 2, 40, x1");
    }

    private static void fourComesFirst() {
        Lab lab = new Lab();
        lab.plant(X, 60, 7).at(0).load(1, X).write(Lab.LOAD, 2, 1, 0, 2).write(Lab.LOAD_BYTE, 2, 1, 0, 4);
        lab.write(Lab.STORE, 0, 1, 0, 3).write(Lab.STORE_BYTE, 0, 1, 0, 5).halt();
        lab.go(0);
        Check.same("each time", allFindings(lab), "4 at 1, 62, x1; 1 at 1, 64, x1; 4 at 2, 64, x1; 1 at 2, 64, x1; "
                + "4 at 3, 63, x1; 2 at 3, 64, x1; 4 at 4, 65, x1; 2 at 4, 65, x1");
    }

    private static void givingNoBlock() {
        for (int address : new int[] {0, 64, 67, 69, 71, 72, 74, 75, 76, 80, 92, 223, 255, 256, -1, -68, 68 + 256, LEAST,
            GREATEST}) {
            Lab lab = new Lab();
            lab.askFor(6);
            lab.at(0).set(1, address).give(1).halt();
            Check.same("no fault", lab.go(0), 3);
            Check.same("giving " + address, allFindings(lab), "5 at 1, " + address + ", x1");
        }
        Lab none = new Lab();
        none.at(0).set(1, 68).give(1).give(0).halt();
        none.go(0);
        Check.same("without any block", allFindings(none), "5 at 1, 68, x1; 5 at 2, 0, x1");
        Lab gone = new Lab();
        for (int k = 0; k < 4; k++) {
            gone.askFor(4);
        }
        gone.giveBack(68).giveBack(80).giveBack(92).giveBack(104).giveBack(68);
        Check.same("one that is gone", allFindings(gone), "5 at 29, 68, x1");
    }

    private static void givingAResting() {
        Lab lab = new Lab();
        lab.askFor(4);
        Check.same("live", allFindings(lab.giveBack(68)), "");
        Check.same("resting", allFindings(lab.giveBack(68)), "6 at 29, 68, x1");
        Check.same("and again", allFindings(lab.giveBack(68)), "6 at 29, 68, x2");
        Check.same("inside it is kind 5", allFindings(lab.giveBack(69)), "6 at 29, 68, x2; 5 at 29, 69, x1");
        Lab unknown = new Lab();
        unknown.askFor(4);
        unknown.giveBack(68).plant(X, 68, 14).at(0).load(1, X).give(1).halt();
        unknown.go(0);
        Check.same("not known besides", allFindings(unknown), "3 at 1, 68, x1; 6 at 1, 68, x1");
    }

    private static void wrongGiftsChangeNothing() {
        Lab lab = new Lab();
        for (int k = 0; k < 5; k++) {
            lab.askFor(4);
        }
        lab.giveBack(68).giveBack(80).giveBack(92);
        lab.pokeWord(68, 7).pokeWord(104, 8);
        lab.giveBack(68).giveBack(105).giveBack(100);
        Check.same("the resting one's byte stays known", lab.warden.memory(68, 2), 1);
        Check.same("the live one's byte stays known", lab.warden.memory(104, 2), 1);
        Check.same("the live one stays open", lab.warden.memory(105, 1), 1);
        Check.same("still two live", lab.warden.count(5), 2);
        Check.same("still three rest", lab.warden.count(6), 3);
        lab.giveBack(104);
        Check.refuses("it did not begin to rest anew", java.util.NoSuchElementException.class,
                () -> lab.warden.block(1, 2));
        Check.same("goes on behind it", lab.warden.count(0), 31);
    }

    private static Lab manyLoads(int many) {
        Lab lab = new Lab();
        for (int i = 0; i < many; i++) {
            lab.load(1, 100 + i);
        }
        lab.halt();
        lab.go(0);
        return lab;
    }

    private static void atMost24() {
        for (int many : new int[] {23, 24, 25, 31}) {
            Lab lab = manyLoads(many);
            Check.same("findings of " + many, lab.warden.count(3), Math.min(24, many));
            Check.same("goes on", lab.warden.count(2), many + 1);
            Check.same("the last one kept", lab.finding(Math.min(24, many) - 1),
                    "1 at " + (Math.min(24, many) - 1) + ", " + (99 + Math.min(24, many)) + ", x1");
            Check.refuses("no more", java.util.NoSuchElementException.class,
                    () -> lab.warden.finding(Math.min(24, many), 0));
        }
    }

    private static void thoseThereCountOn() {
        Lab lab = manyLoads(26);
        Check.same("how often all", lab.warden.count(4), 24);
        lab.go(0);
        Check.same("all again", lab.warden.count(4), 48);
        Check.same("the first", lab.finding(0), "1 at 0, 100, x2");
        Check.same("the last", lab.finding(23), "1 at 23, 123, x2");
        lab.at(0).store(0, 100);
        lab.go(0);
        Check.same("a new kind at an old place finds no room", lab.finding(0), "1 at 0, 100, x2");
        Check.same("still 24", lab.warden.count(3), 24);
        Check.same("and is not counted", lab.warden.count(4), 71);
    }

    private static String outcomeAt(int op, int a, int n) {
        Lab lab = new Lab();
        lab.set(1, a).write(op, 2, 1, 1, n).halt();
        lab.warden.start(0);
        return Check.outcome(() -> lab.warden.run(3));
    }

    private static void outOfMemory() {
        String fault = "throws.IndexOutOfBoundsException";
        for (int op : new int[] {Lab.LOAD, Lab.STORE}) {
            for (int address : new int[] {0, 1, 251, 252}) {
                Check.same("word at " + address, outcomeAt(op, address, 0), "3");
            }
            for (int address : new int[] {-4, -3, -1, 253, 254, 255, 256, LEAST, GREATEST, GREATEST - 3}) {
                Check.same("word at " + address, outcomeAt(op, address, 0), fault);
            }
            Check.same("252 by a sum", outcomeAt(op, 300, -48), "3");
            Check.same("253 by a sum", outcomeAt(op, 250, 3), fault);
        }
        for (int op : new int[] {Lab.LOAD_BYTE, Lab.STORE_BYTE}) {
            for (int address : new int[] {0, 1, 254, 255}) {
                Check.same("byte at " + address, outcomeAt(op, address, 0), "3");
            }
            for (int address : new int[] {-1, 256, 257, LEAST, GREATEST}) {
                Check.same("byte at " + address, outcomeAt(op, address, 0), fault);
            }
            Check.same("a sum that wraps", outcomeAt(op, LEAST, LEAST + 9), "3");
            Check.same("a sum that wraps out", outcomeAt(op, GREATEST, 1), fault);
        }
    }

    private static void faultNotesKind4() {
        for (int op = Lab.LOAD; op <= Lab.STORE_BYTE; op++) {
            Lab lab = new Lab();
            lab.plant(X, 300, 7).at(0).load(1, X).write(op, 2, 1, 0, -1).halt();
            lab.warden.start(0);
            Check.refuses("op " + op, IndexOutOfBoundsException.class, () -> lab.warden.run(3));
            Check.same("of one not known", allFindings(lab), "4 at 1, 299, x1");
            Lab known = new Lab();
            known.set(1, 300).at(1).write(op, 2, 1, 0, -1).halt();
            known.warden.start(0);
            Check.refuses("op " + op, IndexOutOfBoundsException.class, () -> known.warden.run(3));
            Check.same("of a known one", allFindings(known), "");
        }
    }

    private static void faultDoesNothingElse() {
        for (int op = Lab.LOAD; op <= Lab.STORE_BYTE; op++) {
            boolean isWord = op == Lab.LOAD || op == Lab.STORE;
            for (int address : isWord ? new int[] {254, -2} : new int[] {256, -1}) {
                Lab lab = new Lab();
                lab.set(1, address).set(2, 77).set(3, -1).write(op, 2, 1, 3, 0);
                lab.warden.start(0);
                Check.refuses("op " + op, IndexOutOfBoundsException.class, () -> lab.warden.run(200));
                Check.same("d stays", lab.warden.register(2, 0), 77);
                Check.same("d stays known", lab.warden.register(2, 1), 15);
                for (int i : new int[] {0, 1, 254, 255}) {
                    Check.same("byte " + i + " stays", lab.warden.memory(i, 0), 0);
                    Check.same("byte " + i + " is known as before", lab.warden.memory(i, 2), i < 64 ? 1 : 0);
                }
                Check.same("no finding", lab.warden.count(3), 0);
            }
        }
    }

    private static void faultStops() {
        Lab lab = new Lab();
        lab.set(1, 1).load(2, 253).set(3, 3).halt();
        lab.warden.start(0);
        Check.refuses("fault", IndexOutOfBoundsException.class, () -> lab.warden.run(200));
        Check.same("stopped", lab.warden.count(1), 1);
        Check.same("there", lab.warden.count(0), 1);
        Check.same("what is behind it is not done", lab.warden.register(3, 0), 0);
        Check.same("what is before it is", lab.warden.register(1, 0), 1);
        Check.refuses("then", IllegalStateException.class, () -> lab.warden.run(1));
    }
}
