import java.io.IOException;
import java.nio.file.Files;
import java.nio.file.Path;
import java.util.List;
import java.util.regex.Matcher;
import java.util.regex.Pattern;
import java.util.stream.Collectors;

/** The calls that README.md shows answer what it says, and it names each test there is. */
public final class ReadmeTest {
    public static void main(String[] args) throws IOException {
        String page = Files.readString(Path.of("README.md"));
        shown(page);
        statuses(page);
        testsNamed(page);
        Due.end();
    }

    private static void shown(String page) {
        String code = Pattern.compile("(?s)```java\n(.*?)```").matcher(page).results()
            .map(m -> m.group(1)).collect(Collectors.joining())
            .replaceAll("//[^\n]*", "").replaceAll("\\s+", " ").trim();
        Due.due("the lines that are played here are those of the page: " + code, code.equals(PLAYED), true);
        DiscCutter cutter = new DiscCutter();
        Due.due("tray", cutter, cutter.tray(0, 0, 8), 0);
        Due.due("write", cutter, cutter.write(0, 3, 5), 0);
        int song = cutter.song(0, 8, 2);
        Due.due("song", cutter, song, 0, 0);
        Due.due("lay", cutter, cutter.lay(0, song), 0);
        Due.due("lay", cutter, cutter.lay(0, song), 0);
        Due.due("parts", cutter, cutter.parts(0), 16, 0);
        Due.due("room", cutter, cutter.room(0), 14, 0);
        cutter.feed(0x6c656164, 0x20383b20, 0x736f6e67, 0x20303b20, 0);
        Due.due("sheet", cutter, cutter.sheet(16), 2, 0);
        Due.due("run", cutter, cutter.run(), 16, 0);
        Due.due("place", cutter, cutter.place(0, 16), DiscCutter.NONE, 1);
        Due.due("status", cutter.status(), 1);
    }

    private static final String PLAYED = "DiscCutter cutter = new DiscCutter(); cutter.tray(0, 0, 8); "
        + "cutter.write(0, 3, 5); int song = cutter.song(0, 8, 2); cutter.lay(0, song); cutter.lay(0, song); "
        + "int parts = cutter.parts(0); int room = cutter.room(0); "
        + "cutter.feed(0x6c656164, 0x20383b20, 0x736f6e67, 0x20303b20, 0); "
        + "int steps = cutter.sheet(16); int laid = cutter.run(); "
        + "int none = cutter.place(0, 16); int why = cutter.status();";

    private static void statuses(String page) {
        for (int k = 0; k <= 10; k++) {
            Matcher row = Pattern.compile("(?m)^\\| " + k + " \\| .+ \\|$").matcher(page);
            Due.due("README.md tells STATUS " + k, row.find(), true);
        }
    }

    private static void testsNamed(String page) throws IOException {
        List<Path> tests;
        try (var files = Files.list(Path.of("src/test/java"))) {
            tests = files.filter(f -> f.toString().endsWith("Test.java")).collect(Collectors.toList());
        }
        for (Path test : tests) {
            String name = test.getFileName().toString().replace(".java", "");
            Due.due("README.md names " + name, page.contains("`" + name + "`"), true);
        }
        Due.due("README.md names .ci/run", page.contains(".ci/run"), true);
    }
}
