import java.lang.reflect.Method;
import java.lang.reflect.Modifier;
import java.nio.file.Files;
import java.nio.file.Path;
import java.util.regex.Matcher;
import java.util.regex.Pattern;

/** README.md tells of the class as it is: its calls, its example, its numbers, and its tests. */
public final class ReadmeTest {
    public static void main(String[] args) throws Exception {
        // .ci/run gives the path of the source, src/main/java below the README.
        Path source = Path.of(args.length > 0 ? args[0] : "src/main/java/CompositeDecoder.java").toAbsolutePath();
        Path project = source.getParent().getParent().getParent().getParent();
        String readme = Files.readString(project.resolve("README.md"));
        calls(readme, Files.readString(source));
        example(readme);
        errors(readme);
        settings(readme);
        bars(readme);
        tests(readme, project.resolve("src/test/java"));
        Check.finish();
    }

    /** Each call stands in a table as in the source, with the names of its arguments, and no other one does. */
    private static void calls(String readme, String source) {
        int methods = 0;
        for (Method m : CompositeDecoder.class.getDeclaredMethods()) {
            if (Modifier.isPublic(m.getModifiers())) {
                methods++;
                Matcher head = Pattern.compile("public (\\w+ " + m.getName() + "\\([^)]*\\)) \\{").matcher(source);
                require(m.getName() + " stands in the source", head.find());
                require(m.getName() + " is told", readme.contains("\n| `" + head.group(1) + "` |"));
            }
        }
        Matcher rows = Pattern.compile("\n\\| `(int|float) \\w+\\([^|]*\\|").matcher(readme);
        Check.due("calls that are told", rows.results().count(), methods);
    }

    /** The calls of the example; each is looked for in the page, with the answer that it tells. */
    private static void example(String readme) {
        CompositeDecoder x = new CompositeDecoder();
        for (int line = 0; line < 8; line++) {
            shown(readme, "x.fill(line, 100, 20, -30);", String.valueOf(x.fill(line, 100, 20, -30)), "10");
        }
        shown(readme, "x.setLine(3, 0, 40, 0, 0);", String.valueOf(x.setLine(3, 0, 40, 0, 0)), "0");
        shown(readme, "x.decode();", String.valueOf(x.decode()), "7");
        shown(readme, "x.luma(3, 4);", String.valueOf(x.luma(3, 4)), "100");
        shown(readme, "x.u(3, 4);", String.valueOf(x.u(3, 4)), "16.0");
        shown(readme, "x.count(3);", String.valueOf(x.count(3)), "7");
        Check.due("luma(8, 4)", x.luma(8, 4), CompositeDecoder.UNKNOWN);
        require("luma(8, 4) is told", Pattern.compile("x\\.luma\\(8, 4\\); +// CompositeDecoder\\.UNKNOWN").matcher(readme).find());
    }

    private static void shown(String readme, String call, String got, String want) {
        require(call + " answers " + want + ", not " + got, got.equals(want));
        Pattern line = Pattern.compile(Pattern.quote(call) + " +// " + Pattern.quote(want) + "(:.*)?\n");
        require(call + " is told with " + want, line.matcher(readme).find());
    }

    private static void errors(String readme) {
        require("UNKNOWN", readme.contains("| `UNKNOWN` | " + CompositeDecoder.UNKNOWN + " |"));
        require("BAD_VALUE", readme.contains("| `BAD_VALUE` | " + CompositeDecoder.BAD_VALUE + " |"));
        require("FULL", readme.contains("| `FULL` | " + CompositeDecoder.FULL + " |"));
        require("NONE", readme.contains("| `NONE` | " + CompositeDecoder.NONE + " |"));
    }

    /** Each row of the settings is tried: both ends, the next numbers beyond them, and the first value. */
    private static void settings(String readme) {
        Matcher row = Pattern.compile("\n\\| (\\d) \\|[^|]*\\| (\\d+) to (\\d+) \\| (\\d+) \\|").matcher(readme);
        int rows = 0;
        while (row.find()) {
            rows++;
            int what = Integer.parseInt(row.group(1));
            int low = Integer.parseInt(row.group(2));
            int high = Integer.parseInt(row.group(3));
            CompositeDecoder x = new CompositeDecoder();
            Check.due("below setting " + what, x.set(what, low - 1), CompositeDecoder.BAD_VALUE);
            Check.due("above setting " + what, x.set(what, high + 1), CompositeDecoder.BAD_VALUE);
            Check.due("the first value of setting " + what, x.set(what, low), Integer.parseInt(row.group(4)));
            Check.due("the least value of setting " + what, x.set(what, high), low);
            Check.due("the greatest value of setting " + what, x.count(15 + what), high);
        }
        Check.due("settings that are told", rows, 4);
    }

    /** The letters with their colors, and the text with a fault. */
    private static void bars(String readme) {
        Matcher table = Pattern.compile("\n\\| letter \\|([^\n]*)\\|\n[^\n]*\n\\| Y, U, V \\|([^\n]*)\\|\n").matcher(readme);
        require("the letters are told", table.find());
        String[] letters = table.group(1).split("\\|");
        String[] colors = table.group(2).split("\\|");
        Check.due("letters", letters.length, 8);
        Check.due("colors", colors.length, letters.length);
        for (int i = 0; i < letters.length; i++) {
            CompositeDecoder x = new CompositeDecoder();
            char letter = letters[i].replace("`", "").trim().charAt(0);
            String[] yuv = colors[i].trim().split(", ");
            typeAll(x, letter + "9" + letter);
            x.readBars(0);
            int same = x.fill(0, Integer.parseInt(yuv[0]), Integer.parseInt(yuv[1]), Integer.parseInt(yuv[2]));
            Check.due("segments that are not as told for " + letter, same, 0);
        }
        CompositeDecoder x = new CompositeDecoder();
        typeAll(x, "w3ck5");
        Check.due("w3ck5", x.readBars(0), -105);
        require("w3ck5 is told", readme.replaceAll("\\s+", " ").contains("-100 minus 5 is answered for `w3ck5`"));
    }

    private static void typeAll(CompositeDecoder x, String text) {
        for (char c : text.toCharArray()) {
            x.type(c);
        }
    }

    /** Each test of the project has a row. */
    private static void tests(String readme, Path folder) throws Exception {
        try (var files = Files.newDirectoryStream(folder, "*Test.java")) {
            for (Path file : files) {
                String name = file.getFileName().toString().replace(".java", "");
                require(name + " is told", readme.contains("\n| `" + name + "` |"));
            }
        }
    }

    private static void require(String what, boolean holds) {
        Check.due(what, holds ? 1 : 0, 1);
    }
}
