import java.io.IOException;
import java.nio.file.Files;
import java.nio.file.Path;
import java.util.List;

/** README.md's example answers what README.md says, and README.md names every test. */
final class ReadmeTest {
    private static final Check CHECK = new Check("ReadmeTest");
    private static List<String> readme;

    public static void main(String[] args) throws IOException {
        Path root = args.length > 0 ? Path.of(args[0]) : Path.of(".");
        readme = Files.readAllLines(root.resolve("README.md"));
        example();
        namesEveryTest(root);
        CHECK.end();
    }

    private static void example() {
        TapCascade x = new TapCascade();
        for (char c : "v900;s10,1000,5,3,0,0,0;".toCharArray()) {
            x.write(c);
        }
        tells("for (char c : \"v900;s10,1000,5,3,0,0,0;\".toCharArray()) {", "");
        CHECK.due("NONE", TapCascade.NONE, x.fault());
        tells("x.fault();", "NONE");
        tells("x.lay();", x.lay());
        tells("x.settle(0);", x.settle(0));
        tells("x.tick(3);", x.tick(3));
        tells("x.stage(0, 7) - TapCascade.ZERO;", x.stage(0, 7) - TapCascade.ZERO);
        tells("x.best(0) - TapCascade.ZERO;", x.best(0) - TapCascade.ZERO);
        tells("x.tell(0, 2, 1);", x.tell(0, 2, 1));
        tells("x.settle(0);", x.settle(0));
        tells("x.undo();", x.undo());
    }

    private static void tells(String code, int answer) {
        tells(code, answer + ":");
    }

    private static void tells(String code, String answer) {
        for (String row : readme) {
            if (row.matches("\\Q" + code + "\\E *") && answer.isEmpty() || row.matches("\\Q" + code + "\\E *// \\Q" + answer + "\\E.*")) {
                CHECK.holds(code, true);
                return;
            }
        }
        CHECK.holds("README.md has " + code + " // " + answer, false);
    }

    private static void namesEveryTest(Path root) throws IOException {
        try (var files = Files.list(root.resolve("src/test/java"))) {
            for (Path file : (Iterable<Path>) files.sorted()::iterator) {
                String name = file.getFileName().toString().replace(".java", "");
                CHECK.holds("README.md names " + name, readme.stream().anyMatch(row -> row.contains("`" + name + "`")));
            }
        }
    }
}
