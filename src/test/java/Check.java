import java.util.NoSuchElementException;

/** Counts the answers that are due and those that are not, and feeds texts to yards. */
final class Check {
    /** A call whose answer is an exception. */
    interface Call {
        int answer();
    }

    private final String name;
    private int passed = 0;
    private int failed = 0;
    private int promise = 0;
    private String sentence = "";
    private int sentences = 0;
    private int passedAhead = 0;
    private int failedAhead = 0;

    Check(String name) {
        this.name = name;
    }

    void due(int promise, String call, long got, long want) {
        if (got == want) {
            passed++;
            return;
        }
        failed++;
        System.out.println(name + ", promise " + promise + ": " + call + " answered " + got + ", due is " + want);
    }

    void due(int promise, String call, boolean got, boolean want) {
        due(promise, call, got ? 1 : 0, want ? 1 : 0);
    }

    /** The checks that follow hold this sentence of the document to its word. */
    void says(int ofPromise, String words) {
        endSentence();
        promise = ofPromise;
        sentence = words;
        sentences++;
    }

    private void endSentence() {
        if (sentences > 0 && passed == passedAhead && failed == failedAhead) {
            due(promise, "'" + sentence + "': number of checks", 0, 1);
        }
        passedAhead = passed;
        failedAhead = failed;
    }

    void due(String call, long got, long want) {
        due(promise, "'" + sentence + "': " + call, got, want);
    }

    void due(String call, boolean got, boolean want) {
        due(call, got ? 1 : 0, want ? 1 : 0);
    }

    void lacks(String call, Call made) {
        lacks(promise, "'" + sentence + "': " + call, made);
    }

    void lacks(int promise, String call, Call made) {
        int thrown = 0;
        try {
            made.answer();
        } catch (NoSuchElementException e) {
            thrown = 1;
        }
        due(promise, call + " throws NoSuchElementException", thrown, 1);
    }

    void end() {
        endSentence();
        String held = sentences == 0 ? "" : sentences + " sentences, ";
        System.out.println(name + ": " + held + passed + " passed, " + failed + " failed");
        if (failed != 0) {
            System.exit(1);
        }
    }

    /** Feeds a text, with blanks behind it up to a multiple of twenty bytes. */
    static void feed(BlendYard yard, String text) {
        for (int at = 0; at < text.length(); at += 20) {
            yard.feed(four(text, at), four(text, at + 4), four(text, at + 8), four(text, at + 12), four(text, at + 16));
        }
    }

    private static int four(String text, int at) {
        int sum = 0;
        for (int i = at; i < at + 4; i++) {
            sum = sum << 8 | (i < text.length() ? text.charAt(i) : ' ');
        }
        return sum;
    }

    /** What text() answers to a text on an empty tape. */
    static int tell(BlendYard yard, String text) {
        feed(yard, text);
        return yard.text(text.length());
    }

    static BlendYard yard(String text) {
        BlendYard yard = new BlendYard();
        if (tell(yard, text) < 0) {
            throw new IllegalArgumentException("a test's text has a fault: " + text);
        }
        return yard;
    }
}
