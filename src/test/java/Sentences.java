import java.util.ArrayList;
import java.util.List;

/** Tests, each under the words of the document that it holds the program to. */
final class Sentences {
    /** The section's title and the words as they stand there. */
    record Test(String section, String words, Runnable deed) {
        String name() {
            return section + ": \"" + words + "\"";
        }
    }

    private final List<Test> tests = new ArrayList<>();
    private String section = "";

    Sentences in(String title) {
        section = title;
        return this;
    }

    Sentences holds(String words, Runnable deed) {
        tests.add(new Test(section, words, deed));
        return this;
    }

    List<Test> tests() {
        return tests;
    }

    void run() {
        for (Test test : tests) {
            Check.under(test.name());
            int before = Check.made();
            Check.same("goes to its end", endOf(test), "");
            Check.same("looks at something", Check.made() > before + 1 ? 1 : 0, 1);
        }
        Check.finish();
    }

    /** A call that throws where none may would else end all tests, without a word about the sentence. */
    private static String endOf(Test test) {
        try {
            test.deed().run();
            return "";
        } catch (RuntimeException | AssertionError e) {
            return e + " at " + e.getStackTrace()[0];
        }
    }
}
