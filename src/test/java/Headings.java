import java.nio.file.Files;
import java.nio.file.Path;
import java.util.ArrayList;
import java.util.List;
import java.util.regex.Matcher;
import java.util.regex.Pattern;

/** Which calls stand behind which heading in the class, told as the document tells it. */
final class Headings {
    private static final Pattern HEADING = Pattern.compile("    // (---- .*)");
    private static final Pattern FACE = Pattern.compile("    public (?:int|boolean) (\\w+)\\(.*");

    private final List<String> sentences = new ArrayList<>();
    private int given = 0;

    Headings() throws Exception {
        String heading = "";
        List<String> calls = new ArrayList<>();
        for (String line : Files.readAllLines(Path.of("src/main/java/CarriedNumbers.java"))) {
            Matcher call = FACE.matcher(line);
            if (call.matches()) {
                calls.add("`" + call.group(1) + "`");
            }
            Matcher next = HEADING.matcher(line);
            if (next.matches()) {
                close(calls, heading);
                heading = next.group(1);
            }
        }
        close(calls, heading);
    }

    private void close(List<String> calls, String heading) {
        if (!calls.isEmpty()) {
            sentences.add("Ahead of the calls " + String.join(", ", calls)
                + " the interface says: " + heading + ".");
        }
        calls.clear();
    }

    /** The next sentence; an empty one if there is no more. */
    String next() {
        given++;
        return given > sentences.size() ? "" : sentences.get(given - 1);
    }
}
