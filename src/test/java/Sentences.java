import java.io.IOException;
import java.nio.file.Files;
import java.nio.file.Path;
import java.util.ArrayList;
import java.util.List;

/** The document, cut where its promises begin, and which of them have been quoted. */
final class Sentences {
    private static final Path DOCUMENT = Path.of("../shared/DOC.md");
    private static final int PROMISES = 37;
    private final List<String> chapters = new ArrayList<>();
    private final boolean[] quoted = new boolean[PROMISES + 1];

    Sentences() throws IOException {
        if (!Files.exists(DOCUMENT)) {
            System.out.println("there is no " + DOCUMENT + ": quotes are not looked up");
            return;
        }
        String all = Files.readString(DOCUMENT).replaceAll("\\s+", " ");
        for (String chapter : all.split("## (?=Promise )")) {
            chapters.add(chapter);
        }
    }

    /** Whether the words stand at the promise of this number (0: in what stands ahead of the first one). */
    boolean quote(int promise, String words) {
        quoted[promise] = true;
        if (chapters.isEmpty()) {
            return true;
        }
        return promise < chapters.size() && chapters.get(promise).contains(words);
    }

    boolean isQuoted(int promise) {
        return quoted[promise];
    }

    int promises() {
        return PROMISES;
    }
}
