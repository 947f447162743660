import java.io.IOException;
import java.io.UncheckedIOException;
import java.nio.file.Files;
import java.nio.file.Path;

/** ../shared/DOC.md, with each run of blanks and line ends as one blank. */
final class Document {
    static final int PROMISES = 41;
    private static final String TEXT = read(Path.of("../shared/DOC.md"));

    private Document() {
    }

    private static String read(Path path) {
        try {
            return Files.readString(path).replaceAll("\\s+", " ");
        } catch (IOException e) {
            throw new UncheckedIOException(e);
        }
    }

    /** All that stands ahead of the promises and holds for each of them. */
    static String terms() {
        return between("# TrackChamber ", "## Promise 1: ");
    }

    /** What stands under a promise's heading, from its call's face on. */
    static String promise(int number) {
        return between("## Promise " + number + ": ",
            number == PROMISES ? "## Not promised" : "## Promise " + (number + 1) + ": ");
    }

    private static String between(String begin, String end) {
        int from = TEXT.indexOf(begin);
        int to = TEXT.indexOf(end);
        return from < 0 || to < from ? "" : TEXT.substring(from, to);
    }
}
