import java.lang.reflect.Method;
import java.lang.reflect.Modifier;
import java.nio.file.Files;
import java.nio.file.Path;
import java.util.List;
import java.util.TreeSet;
import java.util.regex.Matcher;
import java.util.regex.Pattern;
import java.util.stream.Stream;

/** What README.md says of the use of the class and of its tests must be so. */
final class ReadmeTest {
    private static final Check CHECK = new Check("ReadmeTest");

    private ReadmeTest() {
    }

    public static void main(String[] args) throws Exception {
        exampleAnswers();
        callsAreTold();
        testsAreTold();
        CHECK.end();
    }

    /** The example compiles as it stands there, and prints what stands there. */
    private static void exampleAnswers() throws Exception {
        List<String> code = Readme.blocks("Use", "java");
        List<String> commands = Readme.blocks("Use", "sh");
        List<String> printed = Readme.blocks("Use", "text");
        CHECK.same("one example", "1 1 1", code.size() + " " + commands.size() + " " + printed.size());
        try (Place place = new Place()) {
            place.copy("src/main/java/CarriedNumbers.java", "src/main/java/CarriedNumbers.java");
            place.write("Example.java", code.get(0));
            CHECK.same("the example", printed.get(0), place.run("", commands.get(0)));
            CHECK.same("its exit code", 0, place.code());
        }
    }

    private static TreeSet<String> named(String pattern, String text) {
        TreeSet<String> names = new TreeSet<>();
        Matcher m = Pattern.compile(pattern).matcher(text);
        while (m.find()) {
            names.add(m.group(1));
        }
        return names;
    }

    private static void callsAreTold() throws Exception {
        TreeSet<String> face = new TreeSet<>();
        for (Method m : CarriedNumbers.class.getDeclaredMethods()) {
            if (Modifier.isPublic(m.getModifiers())) {
                face.add(m.getName());
            }
        }
        StringBuilder rows = new StringBuilder();
        for (String row : named("(?m)^\\| (`.*?) \\|", Readme.text())) {
            rows.append(row);
        }
        CHECK.same("the calls", face.toString(), named("`(\\w+)`", rows.toString()).toString());
    }

    /** Each test of the project is told of, and there is none else. */
    private static void testsAreTold() throws Exception {
        TreeSet<String> there = new TreeSet<>();
        try (Stream<Path> files = Files.list(Path.of("src", "test", "java"))) {
            for (Path file : files.toList()) {
                String name = file.getFileName().toString().replace(".java", "");
                boolean runs = Files.readString(file).contains("static void main(String[] args)");
                CHECK.same(name + " is named as what it is", runs ? 1 : 0, name.endsWith("Test") ? 1 : 0);
                if (runs) {
                    there.add(name);
                }
            }
        }
        TreeSet<String> told = named("`(\\w+Test)`", Readme.text());
        CHECK.same("the tests", there.toString(), told.toString());
    }
}
