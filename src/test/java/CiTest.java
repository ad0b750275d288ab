import java.nio.file.Files;
import java.nio.file.Path;
import java.util.List;

/**
 * The command that README.md gives for the tests runs them all and fails if one fails: shown in a
 * small project with two tests of its own and two under ../shared/tests.
 */
final class CiTest {
    private static final Check CHECK = new Check("CiTest");
    private static final String[] TESTS = {
        "project/src/test/java/OneTest", "project/src/test/java/TwoTest",
        "shared/tests/Three", "shared/tests/FourRuns"};
    private static final String BROKEN = "this does not compile";

    private CiTest() {
    }

    public static void main(String[] args) throws Exception {
        boolean executable = Files.isExecutable(Path.of(".ci", "run"));
        CHECK.same(".ci/run is executable", 1, executable ? 1 : 0);
        List<String> commands = Readme.blocks("Tests", "sh");
        CHECK.same("one command", 1, commands.size());
        allPass(commands.get(0), "project");
        allPass("bash project/.ci/run", "");
        for (int i = 0; i < TESTS.length; i++) {
            oneFails(commands.get(0), i);
            oneIsBroken(commands.get(0), i);
        }
        classIsBroken(commands.get(0));
        noneShared(commands.get(0));
        CHECK.end();
    }

    private static String nameOf(String test) {
        return test.substring(test.lastIndexOf('/') + 1);
    }

    private static String test(String name, int code) {
        return "class " + name + " { public static void main(String[] args) {"
            + " new CarriedNumbers(); Helper.ran(\"" + name + "\"); System.exit(" + code + "); } }";
    }

    private static String helper(String inside) {
        return inside + " { static void ran(String name) {"
            + " System.out.println(\"ran \" + name + \".\"); } }";
    }

    private static Place project() throws Exception {
        Place place = new Place();
        place.copy(".ci/run", "project/.ci/run");
        place.copy("src/main/java/CarriedNumbers.java",
            "project/src/main/java/CarriedNumbers.java");
        place.write("project/src/test/java/Helper.java", helper("class Helper"));
        for (String test : TESTS) {
            write(place, test, 0);
        }
        return place;
    }

    private static void write(Place place, String test, int code) throws Exception {
        String name = nameOf(test);
        boolean shared = test.startsWith("shared");
        String alone = shared ? helper("\nclass Helper") : "";
        place.write(test + ".java", test(name, code) + alone);
    }

    private static void ran(String what, String printed, int from, int to) {
        for (int i = 0; i < TESTS.length; i++) {
            String mark = "ran " + nameOf(TESTS[i]) + ".";
            int want = i >= from && i < to ? 1 : 0;
            CHECK.same(what + ", " + mark, want, printed.contains(mark) ? 1 : 0);
        }
    }

    private static void allPass(String command, String directory) throws Exception {
        try (Place place = project()) {
            ran("all pass", place.run(directory, command), 0, TESTS.length);
            CHECK.same("all pass, exit code", 0, place.code());
        }
    }

    private static void fails(String what, Place place) {
        CHECK.same(what + ", exit code", 1, place.code() == 0 ? 0 : 1);
    }

    private static void oneFails(String command, int i) throws Exception {
        try (Place place = project()) {
            write(place, TESTS[i], 1);
            ran(TESTS[i] + " fails", place.run("project", command), 0, TESTS.length);
            fails(TESTS[i] + " fails", place);
        }
    }

    /** The other half of the tests is run all the same. */
    private static void oneIsBroken(String command, int i) throws Exception {
        try (Place place = project()) {
            place.write(TESTS[i] + ".java", BROKEN);
            String printed = place.run("project", command);
            String what = TESTS[i] + " does not compile";
            if (i < 2) {
                ran(what, printed, 2, TESTS.length);
            }
            fails(what, place);
        }
    }

    private static void classIsBroken(String command) throws Exception {
        try (Place place = project()) {
            place.write("project/src/main/java/CarriedNumbers.java", BROKEN);
            ran("the class does not compile", place.run("project", command), 0, 0);
            fails("the class does not compile", place);
        }
    }

    private static void noneShared(String command) throws Exception {
        try (Place place = project()) {
            place.run("shared/tests", "rm *.java");
            ran("none shared", place.run("project", command), 0, 2);
            fails("none shared", place);
        }
    }
}
