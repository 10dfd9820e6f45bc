import java.io.IOException;
import java.nio.file.Files;
import java.nio.file.Path;

/** README.md: its example is the one that stands here, line by line; both are read from the project's folder. */
public final class ReadmeTest {
    private static final Path README = Path.of("README.md");
    private static final Path THIS = Path.of("src", "test", "java", "ReadmeTest.java");

    public static void main(String[] args) throws IOException {
        example();
        exampleIsTheReadmes();
        Due.end();
    }

    private static void example() {
        FloodWardens wardens = new FloodWardens();
        wardens.setRiver(0, 8);
        wardens.addGauge(3, 1, 4);
        wardens.addRefuge(5, 5, 20);
        wardens.settle(5, 3, 4);
        wardens.addCaller(5, 4);
        int hours = wardens.rings(0);
        int x = wardens.advise(1);
        int safe = wardens.foresee(6, 0);
        int lost = wardens.pass(6);
        double share = wardens.share();
        Due.same("rings(0)", hours, 1);
        Due.same("advise(1)", x, 0);
        Due.same("foresee(6, 0)", safe, 4);
        Due.same("pass(6)", lost, 0);
        Due.sameShare("share()", share, 1.0);
    }

    private static void exampleIsTheReadmes() throws IOException {
        String[] parts = Files.readString(README).split("```");
        String here = Files.readString(THIS);
        int lines = 0;
        for (String part : parts) {
            for (String line : part.startsWith("java\n") ? part.substring(5).split("\n") : new String[0]) {
                String call = line.replaceAll("//.*", "").strip();
                Due.holds("this test makes the call of README.md: " + call, here.contains("        " + call + "\n"));
                lines++;
            }
        }
        Due.holds("README.md has an example", lines >= 8);
    }
}
