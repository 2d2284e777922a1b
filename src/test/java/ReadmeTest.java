import java.io.IOException;
import java.nio.charset.StandardCharsets;
import java.nio.file.Files;
import java.nio.file.Path;
import java.util.Arrays;
import java.util.Set;
import java.util.TreeSet;
import java.util.regex.Matcher;
import java.util.regex.Pattern;

/** What README.md says of the use of the class. Runs in the folder of the project. */
public final class ReadmeTest extends Checks {
    private static final Path README = Path.of("README.md");
    private static final Path HERE = Path.of("src/test/java/ReadmeTest.java");

    public static void main(String[] args) throws IOException {
        example();
        exampleIsThatOfThePage();
        largerText();
        name();
        allCallsAreTold();
        finish("ReadmeTest", 1, 0);
    }

    private static String page() throws IOException {
        return Files.readString(README, StandardCharsets.UTF_8);
    }

    private static void example() {
        IconSetBuilder set = new IconSetBuilder();
        // "icon", " a; ", "icon", " b; ", "    "
        set.append(0x69636f6e, 0x20613b20, 0x69636f6e, 0x20623b20, 0x20202020);
        int icons = set.load(20);             // 2, or an error code; then errorPosition() tells where
        int size = set.addSize(16);           // 0
        int ink = set.measure(0, size, 0);    // 0: the icon has no uses yet
        int length = set.writeIcon(0, size);  // 272 bytes, to be read with writtenByte
        set.undo();                           // takes addSize back
        due(icons, 2);
        due(size, 0);
        due(ink, 0);
        due(length, 272);
        due(set.count(0), 0);
    }

    /** The example above and that of the page must not drift apart. */
    private static void exampleIsThatOfThePage() throws IOException {
        String here = Files.readString(HERE, StandardCharsets.UTF_8);
        Matcher block = Pattern.compile("(?s)```java\n(.*?)```").matcher(page());
        yes(block.find());
        String indented = block.group(1).replaceAll("(?m)^(?=.)", "        ");
        yes(here.contains(indented));
    }

    private static void largerText() throws IOException {
        Matcher block = Pattern.compile("(?m)(?:^    (?:size|part|icon) .*\n)+").matcher(page());
        yes(block.find());
        IconSetBuilder x = of(block.group().replaceAll("\n *", " ").trim());
        int[] counts = {2, 2, 2, 3, 3, 0};
        for (int what = 0; what <= 5; what++) {
            due(x.count(what), counts[what]);
        }
        due(x.use(1, 1, 1), 6);
        due(x.use(1, 1, 2), -6);
        due(x.size(1, 1), -1);
    }

    private static void name() throws IOException {
        yes(page().contains("`dot` is\n  `4L << 10 | 15L << 5 | 20L`"));
        due(of("part frame bar 0 0 1 1; part dot bar 0 0 1 1;").findPart(4L << 10 | 15L << 5 | 20L), 1);
    }

    /** The table has each method of the class once, and no other. */
    private static void allCallsAreTold() throws IOException {
        Set<String> told = new TreeSet<>();
        Matcher row = Pattern.compile("(?m)^\\| [a-z].*\\|$").matcher(page());
        while (row.find()) {
            Matcher call = Pattern.compile("`(\\w+)`").matcher(row.group());
            while (call.find()) {
                yes(told.add(call.group(1)));
            }
        }
        Set<String> there = new TreeSet<>();
        Arrays.stream(IconSetBuilder.class.getMethods())
                .filter(method -> method.getDeclaringClass() == IconSetBuilder.class)
                .forEach(method -> there.add(method.getName()));
        same(told.toString(), there.toString());
    }
}
