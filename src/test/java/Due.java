import java.io.IOException;
import java.nio.file.Files;
import java.nio.file.Path;

/** What the tests share: a tally of answers that are not as due, and how a text is told. */
final class Due {
    private static final Path DOCUMENT = Path.of("../shared/DOC.md");

    private int wrong = 0;
    private int looked = 0;
    private String about = "";
    private String document = "";

    void about(String text) {
        about = text;
    }

    /**
     * The sentence of the document (or the part of it) that the next answers hold to. It must
     * stand there just so, else the test would hold the class to something that nobody promised.
     */
    void says(String sentence) {
        about(sentence);
        if (document.isEmpty()) {
            document = readDocument();
        }
        is("the document says so", document.contains(sentence));
    }

    private static String readDocument() {
        try {
            return Files.readString(DOCUMENT).replaceAll("\\s+", " ");
        } catch (IOException e) {
            throw new IllegalStateException("no document at " + DOCUMENT, e);
        }
    }

    void is(String call, long got, long want) {
        looked++;
        if (got != want) {
            wrong++;
            if (wrong <= 50) {
                System.out.println(about + ": " + call + " answered " + got + ", due is " + want);
            }
        }
    }

    void is(String call, boolean got) {
        is(call, got ? 1 : 0, 1);
    }

    /** Ends the test: with exit code 1 if an answer was not as due. */
    void end() {
        System.out.println(looked + " answers looked at, " + wrong + " not as due");
        if (wrong != 0 || looked == 0) {
            System.exit(1);
        }
    }

    static int tell(LavaLodger x, String text) {
        for (int i = 0; i < text.length(); i++) {
            x.feed(text.charAt(i));
        }
        return x.street();
    }

    static LavaLodger told(String text) {
        LavaLodger x = new LavaLodger();
        if (tell(x, text) < 0) {
            throw new IllegalStateException("the test's own street has a fault: " + text);
        }
        return x;
    }
}
