import java.io.IOException;
import java.nio.file.Files;
import java.nio.file.Path;
import java.util.Arrays;
import java.util.LinkedHashMap;
import java.util.Map;

/** The document's text, of which every sentence must be quoted by a run that tests it. */
final class Quotes {
    private static final Path DOCUMENT = Path.of("../shared/DOC.md");

    private final Check check;
    private final Map<String, String> texts = new LinkedHashMap<>();
    private final Map<String, boolean[]> quoted = new LinkedHashMap<>();

    Quotes(Check check) throws IOException {
        this.check = check;
        if (!Files.isRegularFile(DOCUMENT)) {
            System.out.println("Quotes: " + DOCUMENT + " is not there, so no quote is looked up");
            return;
        }
        for (String part : Files.readString(DOCUMENT).split("\n## ")) {
            int end = part.indexOf('\n');
            if (end >= 0) {
                String heading = part.substring(0, end).replaceAll(":.*", "").trim();
                String text = plain(part.substring(end));
                texts.put(heading, text);
                quoted.put(heading, new boolean[text.length()]);
            }
        }
    }

    /** Without what promises nothing by itself: code fences, signatures, and where the interface has which comments. */
    private static String plain(String text) {
        return text.replaceAll("```(text)?", " ")
                .replaceAll("(?m)^`[^`]*`: ", " ")
                .replaceAll("(?m)^Ahead of the calls .*$", " ")
                .replaceAll("\\s+", " ")
                .trim();
    }

    void quote(String heading, String sentence) {
        String text = texts.get(heading);
        if (texts.isEmpty()) {
            return;
        }
        int at = text == null ? -1 : text.indexOf(sentence);
        check.is("'" + sentence + "' stands under " + heading, at >= 0, true);
        if (at >= 0) {
            Arrays.fill(quoted.get(heading), at, at + sentence.length(), true);
        }
    }

    /** Every word of the terms and the promises must have been quoted. */
    void finish() {
        for (String heading : texts.keySet()) {
            if (heading.equals("Terms") || heading.startsWith("Promise ")) {
                check.tell("what no run quotes of " + heading, unquoted(heading), "");
            }
        }
    }

    private String unquoted(String heading) {
        String text = texts.get(heading);
        StringBuilder rest = new StringBuilder();
        for (int i = 0; i < text.length(); i++) {
            rest.append(quoted.get(heading)[i] ? ' ' : text.charAt(i));
        }
        return rest.toString().replaceAll("\\s+", " ").trim();
    }
}
