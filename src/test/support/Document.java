import java.io.IOException;
import java.io.UncheckedIOException;
import java.nio.file.Files;
import java.nio.file.Path;
import java.util.ArrayList;
import java.util.List;

/** The sentences of ../shared/DOC.md, so that tests can quote them and none is left out unseen. */
final class Document {
    private static final String TEXT = read();
    static final int PROMISES = 42;

    private Document() {
    }

    private static String read() {
        try {
            return Files.readString(Path.of("../shared/DOC.md"));
        } catch (IOException e) {
            throw new UncheckedIOException(e);
        }
    }

    /**
     * Answers the sentences of a promise; each parameter's line is one, without the dash before it. For 0 they are
     * those of "What it is" and "Description", without the examples.
     */
    static List<String> sentences(int promise) {
        if (promise == 0) {
            List<String> sentences = sentencesOf(between("## What it is", "## The public face"));
            sentences.addAll(sentencesOf(between("## Description", "Examples: Each of them")));
            return sentences;
        }
        String end = promise == PROMISES ? "## Not promised" : "## Promise " + (promise + 1) + ":";
        String whole = between("## Promise " + promise + ":", end);
        return sentencesOf(whole.substring(whole.indexOf('\n')));
    }

    /** Answers the members that the public face prints, without the word public. */
    static List<String> face() {
        List<String> members = new ArrayList<>();
        for (String line : between("## The public face", "## Description").split("\n")) {
            if (line.matches("    public .*;")) {
                members.add(line.trim().replaceAll("^public |;$", ""));
            }
        }
        return members;
    }

    private static String between(String begin, String end) {
        int from = TEXT.indexOf(begin);
        int to = TEXT.indexOf(end);
        if (from < 0 || to < from) {
            throw new IllegalStateException("the document has no " + begin + " before " + end);
        }
        return TEXT.substring(from + begin.length(), to);
    }

    private static List<String> sentencesOf(String text) {
        List<String> sentences = new ArrayList<>();
        for (String block : text.split("\n\n|\n- ")) {
            String line = block.trim().replaceAll("\\s+", " ").replaceFirst("^- ", "");
            for (String sentence : line.split("(?<=\\.) (?=[A-Z])")) {
                if (!sentence.isEmpty()) {
                    sentences.add(sentence);
                }
            }
        }
        return sentences;
    }
}
