import java.io.IOException;
import java.nio.file.Files;
import java.nio.file.Path;
import java.util.ArrayList;
import java.util.List;

/** What ../shared/DOC.md says. */
final class Doc {
    private Doc() {
    }

    private static String text() throws IOException {
        return Files.readString(Path.of("..", "shared", "DOC.md"));
    }

    /** The lines of the public face, as they stand there. */
    static String[] face() throws IOException {
        String text = text();
        int from = text.indexOf("```java");
        return text.substring(from, text.indexOf("```\n", from + 7)).split("\n");
    }

    /** Each sentence behind its heading; a single word, such as "Ports.", tells nothing. */
    static List<String> sentences() throws IOException {
        List<String> all = new ArrayList<>();
        String heading = "";
        for (String line : text().replaceAll("(?s)```.*?```", "").split("\n")) {
            if (line.startsWith("#")) {
                heading = line.replaceFirst("#+ ", "");
                continue;
            }
            for (String sentence : line.replaceFirst("^`.*?`: ", "").split("(?<=\\.) ")) {
                if (sentence.contains(" ")) {
                    all.add(heading + " | " + sentence);
                }
            }
        }
        return all;
    }
}
