import java.util.List;

/**
 * Every test of a sentence bears words that stand in the document, and every word of the document that
 * asks for something is in the name of a test.
 */
final class DocumentTest {
    /** What the document leaves free, and so no test may ask for. */
    private static final String[][] FREE = {
        {"What it is", "what later calls answer is free."},
        {"The public face", "}"},
    };

    private static final List<String> WITHOUT_TESTS = List.of("ShadowWarden", "Not promised");

    public static void main(String[] args) {
        Document document = new Document();
        for (Sentences sentences : everywhere()) {
            for (Sentences.Test test : sentences.tests()) {
                boolean stands = document.name(test.section(), test.words());
                Check.same("stands in the document: " + test.name(), stands ? 1 : 0, 1);
            }
        }
        for (String[] free : FREE) {
            Check.same("stands in the document: " + free[1], document.name(free[0], free[1]) ? 1 : 0, 1);
        }
        for (String section : document.sections()) {
            if (!WITHOUT_TESTS.contains(section)) {
                Check.same("without a test in " + section, document.unnamed(section).toString(), "[]");
            }
        }
        Check.same("sections", document.sections().size(), 17);
        Check.finish();
    }

    private static List<Sentences> everywhere() {
        return List.of(WhatItIsTest.all(), FaceTest.all(), TermsMemoryTest.all(), TermsOpsTest.all(), TermsKnownTest.all(),
                TermsFindingsTest.all(), TermsBlocksTest.all(), TermsLeadsTest.all(), TermsPiecesTest.all(),
                Promise01NewObjectTest.all(), Promise02CodeTest.all(), Promise03StartTest.all(), Promise04RunTest.all(),
                Promise05RegisterTest.all(), Promise06MemoryTest.all(), Promise07PokeTest.all(),
                Promise08FindingTest.all(), Promise09BlockTest.all(), Promise10LeaksTest.all(), Promise11CountTest.all(),
                Promise12OrderTest.all());
    }
}
