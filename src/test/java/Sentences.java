import java.io.IOException;
import java.nio.file.Files;
import java.nio.file.Path;
import java.util.ArrayList;
import java.util.List;

/**
 * The sentences of the document, each said ahead of the calls that show that it holds. At the end they are laid over the
 * document: each must stand there, and nothing of what is promised may be left over.
 */
final class Sentences {
    static final int TERMS = 0, PROMISES = 32;

    private static final List<List<String>> SAID = new ArrayList<>();

    static {
        for (int section = TERMS; section <= PROMISES; section++) {
            SAID.add(new ArrayList<>());
        }
    }

    private Sentences() {
    }

    /** The answers that come next are of this sentence. */
    static void says(int section, String sentence) {
        SAID.get(section).add(sentence);
        Due.under((section == TERMS ? "Terms" : "promise " + section) + ", \"" + sentence + "\": ");
    }

    static void dueInDocument(Path path) throws IOException {
        Due.under("");
        if (!Files.exists(path)) {
            System.out.println("the sentences were not looked up: there is no " + path);
            return;
        }
        String document = Files.readString(path);
        for (int section = TERMS; section <= PROMISES; section++) {
            dueInSection(section, promised(section, document));
        }
    }

    private static String promised(int section, String document) {
        String head = section == TERMS ? "## Terms" : "## Promise " + section + ":";
        int from = document.indexOf(head);
        int to = document.indexOf("\n## ", from + 1);
        if (from < 0 || to < 0) {
            return "";
        }
        String text = document.substring(document.indexOf('\n', from), to);
        // What only sets the text out, or names the calls, promises nothing.
        return text.replaceAll("```(text)?", " ").replaceAll("={8} \\d", " ").replaceAll("Ahead of the calls [^\\n]*", " ")
            .replaceAll("`[A-Za-z]* ?[A-Za-z]+\\([^)]*\\)`:", " ").replaceAll("\\s+", " ");
    }

    private static void dueInSection(int section, String text) {
        StringBuilder left = new StringBuilder(text);
        for (String sentence : SAID.get(section)) {
            int at = text.indexOf(sentence);
            Due.due("section " + section + " says \"" + sentence + "\"", at < 0 ? 0 : 1, 1);
            for (; at >= 0; at = text.indexOf(sentence, at + 1)) {
                left.replace(at, at + sentence.length(), " ".repeat(sentence.length()));
            }
        }
        String over = left.toString().replaceAll("[^A-Za-z0-9]+", " ").strip();
        Due.due("words of section " + section + " that no test says (" + over + ")", over.length(), 0);
    }
}
