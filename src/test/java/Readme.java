import java.io.IOException;
import java.nio.file.Files;
import java.nio.file.Path;
import java.util.ArrayList;
import java.util.List;
import java.util.regex.Matcher;
import java.util.regex.Pattern;

/** What README.md shows. */
final class Readme {
    private Readme() {
    }

    static String text() throws IOException {
        return Files.readString(Path.of("README.md"));
    }

    /** The blocks of that language between that heading and the next one, as they stand there. */
    static List<String> blocks(String heading, String language) throws IOException {
        String text = text() + "\n## ";
        int from = text.indexOf("\n## " + heading + "\n");
        List<String> blocks = new ArrayList<>();
        if (from >= 0) {
            String section = text.substring(from, text.indexOf("\n## ", from + 1));
            Matcher m = Pattern.compile("(?s)```" + language + "\n(.*?)```").matcher(section);
            while (m.find()) {
                blocks.add(m.group(1));
            }
        }
        return blocks;
    }
}
