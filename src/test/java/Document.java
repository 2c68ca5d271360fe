import java.io.IOException;
import java.nio.charset.StandardCharsets;
import java.nio.file.Files;
import java.nio.file.Path;
import java.util.HashMap;
import java.util.Map;

/** The document's text by its headings, each run of blanks and line ends as one blank. */
final class Document {
    private final Map<String, String> textsByHeading = new HashMap<>();

    Document() throws IOException {
        String whole = Files.readString(Path.of("../shared/DOC.md"), StandardCharsets.UTF_8);
        for (String part : whole.split("(?m)^#+ ")) {
            String[] headingAndText = part.split("\n", 2);
            if (headingAndText.length == 2) {
                String heading = headingAndText[0].replaceFirst(":.*", "").trim();
                textsByHeading.put(heading, headingAndText[1].replaceAll("\\s+", " "));
            }
        }
    }

    boolean says(String heading, String sentence) {
        return textsByHeading.getOrDefault(heading, "").contains(sentence);
    }
}
