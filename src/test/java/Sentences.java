import java.io.IOException;
import java.nio.file.Files;
import java.nio.file.Path;
import java.util.ArrayList;
import java.util.Arrays;
import java.util.List;

/** The document, cut where its promises begin, and what of it has been quoted. */
final class Sentences {
    private static final Path DOCUMENT = Path.of("../shared/DOC.md");
    private static final int PROMISES = 37;
    private final List<String> chapters = new ArrayList<>();
    private final List<boolean[]> quoted = new ArrayList<>();

    Sentences() throws IOException {
        if (!Files.exists(DOCUMENT)) {
            System.out.println("there is no " + DOCUMENT + ": quotes are not looked up");
            return;
        }
        String all = Files.readString(DOCUMENT).replaceAll("\\s+", " ");
        for (String chapter : all.split("## (?=Promise )")) {
            chapters.add(chapter);
            quoted.add(new boolean[chapter.length()]);
        }
    }

    /** Whether the words stand at the promise of this number (0: in what stands ahead of the first one). */
    boolean quote(int promise, String words) {
        if (chapters.isEmpty()) {
            return true;
        }
        if (promise >= chapters.size()) {
            return false;
        }
        String chapter = chapters.get(promise);
        int at = chapter.indexOf(words);
        boolean stands = at >= 0;
        while (at >= 0) {
            Arrays.fill(quoted.get(promise), at, at + words.length(), true);
            at = chapter.indexOf(words, at + 1);
        }
        return stands;
    }

    /** What of a promise (0: of the terms) has not been quoted: headings and signatures aside, that is untested. */
    String unquoted(int promise) {
        if (promise >= chapters.size()) {
            return "";
        }
        String chapter = chapters.get(promise);
        String head = promise == 0 ? "## Terms " : "`: ";
        int end = chapter.indexOf("## Not promised");
        StringBuilder left = new StringBuilder();
        for (int i = chapter.indexOf(head) + head.length(); i < (end < 0 ? chapter.length() : end); i++) {
            left.append(quoted.get(promise)[i] ? ' ' : chapter.charAt(i));
        }
        return left.toString().replace("```text", "").replaceAll("[^A-Za-z0-9]+", " ").strip();
    }

    int promises() {
        return PROMISES;
    }
}
