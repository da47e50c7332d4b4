import java.io.IOException;
import java.io.UncheckedIOException;
import java.nio.file.Files;
import java.nio.file.Path;

/**
 * Reads a part of the document along: each sentence is quoted as it stands there, in its turn, and has a test of its own
 * or names no boundary. So no sentence is passed over, and one that changes is told.
 */
final class ReadAlong {
    interface Test {
        void run(Checks c);
    }

    private final Checks checks = new Checks();
    private final String part;
    private int at = 0;
    private String ahead = "";

    /** The part from one heading to another ("": to the end). */
    ReadAlong(String from, String to) {
        String doc = read().replaceAll("(?m)^(```|====|----).*?(?= |$)", "").replaceAll("\\s+", " ");
        int start = doc.indexOf(from);
        int end = to.isEmpty() ? doc.length() : doc.indexOf(to);
        checks.about("the document");
        checks.due("a part from " + from, start >= 0 && end >= start ? 1 : 0, 1);
        part = start >= 0 && end >= start ? doc.substring(start, end) : "";
    }

    private static String read() {
        try {
            return Files.readString(Path.of("../shared/DOC.md"));
        } catch (IOException e) {
            throw new UncheckedIOException(e);
        }
    }

    /** A heading and the call's line. */
    void promise(String heading, String line) {
        plain("## Promise " + heading);
        plain("`" + line + "`:");
        ahead = heading + ": ";
    }

    /** Goes on behind these words; what is ahead of them another test reads. */
    void passTo(String words) {
        int found = part.indexOf(words, at);
        checks.about("the document");
        checks.due("does it go on to: " + words, found < 0 ? 0 : 1, 1);
        at = found < 0 ? at : found + words.length();
    }

    /** Words that name no boundary. */
    void plain(String words) {
        checks.about("the document");
        int found = part.indexOf(words, at);
        String between = found < 0 ? "" : part.substring(at, found).strip();
        checks.due("does it go on with: " + words, found < 0 ? 0 : 1, 1);
        checks.due("ahead of it without a test: " + between, between.length(), 0);
        at = found < 0 ? at : found + words.length();
    }

    /** A sentence and the test of it. */
    void edge(String words, Test test) {
        plain(words);
        checks.about(ahead + words);
        int before = checks.howMany();
        try {
            test.run(checks);
        } catch (RuntimeException e) {
            checks.due("the test came to an end, but for " + e, 0, 1);
        }
        checks.due("a test that asks something", checks.howMany() > before ? 1 : 0, 1);
    }

    void end() {
        checks.about("the document");
        checks.due("at the end without a test: " + part.substring(at).strip(), part.substring(at).strip().length(), 0);
        checks.end();
    }
}
