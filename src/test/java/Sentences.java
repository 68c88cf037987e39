import java.util.List;

/** Tests that name a promise and the document's own words; those words must stand there, and none may be left out. */
final class Sentences {
    static final String INDEX = "IndexOutOfBoundsException";
    static final String ARGUMENT = "IllegalArgumentException";
    static final String UNSUPPORTED = "UnsupportedOperationException";

    interface Test {
        void run();
    }

    interface Maker {
        Subject make();
    }

    interface Action {
        Object on(Subject x);
    }

    private final Check check = new Check("sentences");
    private final Document document = new Document();
    private String title = "";

    /** A test of a promise's own sentence, or a part of it. */
    void promise(int number, String words, Test test) {
        title = "Promise " + number + ", \"" + words + "\": ";
        look("Promise " + number, words, test);
    }

    /** A test of a sentence of Terms, or a part of it, for which words in capitals of these promises stand. */
    void term(String promises, String words, Test test) {
        title = "Promise " + promises + ", Terms, \"" + words + "\": ";
        look("Terms", words, test);
    }

    private void look(String section, String words, Test test) {
        int before = check.looked();
        check.due(title + "the document says so", true, () -> document.name(section, words));
        test.run();
        if (check.looked() - before < 2) {
            check.due(title + "the test looks at an answer", true, () -> false);
        }
    }

    void due(String what, Object want, Check.Call call) {
        check.due(title + what, want, call);
    }

    /** A call that throws this, and changes nothing that a later call shows. */
    void refused(String what, String exception, Maker maker, Action action) {
        Subject untouched = maker.make();
        Subject touched = maker.make();
        due(what, "throws." + exception, () -> action.on(touched));
        due(what + " changes nothing", untouched.everything(), touched::everything);
    }

    /** The same, on an object in which nothing is as at first. */
    void refused(String what, String exception, Action action) {
        refused(what, exception, Fixtures::busy, action);
    }

    void end() {
        title = "";
        due("promises of the document", 25, document::promises);
        due("words of the document that no test names", List.of(), document::unnamed);
        check.end();
    }
}
