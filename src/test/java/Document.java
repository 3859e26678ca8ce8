import java.io.IOException;
import java.io.UncheckedIOException;
import java.nio.file.Files;
import java.nio.file.Path;

/** The text of ../shared/DOC.md, so that a test can only be of a sentence that stands there. */
final class Document {
    private static final String TEXT = read();
    private static final String PROMISE = "\n## Promise ";

    private Document() {
    }

    private static String read() {
        try {
            return Files.readString(Path.of("../shared/DOC.md"));
        } catch (IOException e) {
            throw new UncheckedIOException(e);
        }
    }

    static String aheadOfPromises() {
        return TEXT.substring(0, TEXT.indexOf(PROMISE));
    }

    static String terms() {
        String ahead = aheadOfPromises();
        return ahead.substring(ahead.indexOf("\n## Terms") + 1);
    }

    /** A promise with its heading. */
    static String promise(int number) {
        int start = TEXT.indexOf(PROMISE + number + ":") + 1;
        return TEXT.substring(start, TEXT.indexOf("\n## ", start));
    }
}
