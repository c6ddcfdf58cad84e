import java.util.ArrayList;
import java.util.List;

/** Tests, each under the words of the document that it holds the program to. */
final class Sentences {
    /** The section's title and the words as they stand there. */
    record Test(String section, String words, Runnable deed) {
        String name() {
            return section + ": \"" + words + "\"";
        }
    }

    private final List<Test> tests = new ArrayList<>();
    private String section = "";

    Sentences in(String title) {
        section = title;
        return this;
    }

    Sentences holds(String words, Runnable deed) {
        tests.add(new Test(section, words, deed));
        return this;
    }

    List<Test> tests() {
        return tests;
    }

    void run() {
        for (Test test : tests) {
            Check.under(test.name());
            int before = Check.made();
            test.deed().run();
            Check.same("looks at something", Check.made() > before ? 1 : 0, 1);
        }
        Check.finish();
    }
}
