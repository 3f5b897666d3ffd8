import java.io.IOException;
import java.lang.reflect.Field;
import java.lang.reflect.Method;
import java.lang.reflect.Modifier;
import java.nio.file.Files;
import java.nio.file.Path;
import java.util.List;
import java.util.Set;
import java.util.TreeSet;
import java.util.regex.Matcher;
import java.util.regex.Pattern;
import java.util.stream.Stream;

/** README.md's examples are one run on one object, each line with the answer that stands behind it. */
public final class ReadmeTest {
    private static final String FIRST = "ReelNight x = new ReelNight();";
    private static final Pattern CALL = Pattern.compile("x\\.(\\w+)\\(([^()]*)\\);\\s+// (?:ReelNight\\.)?(-?\\w+)(:.*)?");
    private static final Due due = new Due();

    private ReadmeTest() {
    }

    public static void main(String[] args) throws Exception {
        String readme = Files.readString(Path.of("README.md"));
        Set<String> shown = examples(readme);
        for (Method m : ReelNight.class.getDeclaredMethods()) {
            if (Modifier.isPublic(m.getModifiers())) {
                due.holds("README.md shows " + m.getName(), shown.contains(m.getName()));
            }
        }
        for (Field f : ReelNight.class.getFields()) {
            due.holds("README.md names " + f.getName(), names(readme, f.getName()));
        }
        tests(readme);
        due.close();
    }

    private static boolean names(String readme, String constant) {
        return Pattern.compile("(ReelNight\\.|`)" + constant + "\\b").matcher(readme).find();
    }

    private static Set<String> examples(String readme) {
        Talk talk = new Talk();
        Set<String> shown = new TreeSet<>();
        int objects = 0;
        Matcher block = Pattern.compile("(?s)```java\n(.*?)```").matcher(readme);
        while (block.find()) {
            for (String line : block.group(1).split("\n")) {
                Matcher call = CALL.matcher(line);
                objects += line.equals(FIRST) ? 1 : 0;
                due.holds("a call and its answer: " + line, line.equals(FIRST) || call.matches());
                if (call.matches()) {
                    shown.add(call.group(1));
                    String words = call.group(1) + " " + call.group(2).replace("ReelNight.", "").replace(",", " ");
                    due.is(line, talk.ask(words), Talk.number(call.group(3)));
                }
            }
        }
        due.is("README.md makes one object", objects, 1);
        return shown;
    }

    private static void tests(String readme) throws IOException {
        try (Stream<Path> all = Files.list(Path.of("src/test/java"))) {
            List<String> names = all.map(path -> path.getFileName().toString().replace(".java", ""))
                .filter(name -> name.endsWith("Test")).sorted().toList();
            for (String name : names) {
                due.holds("README.md names " + name, readme.contains("- `" + name + "`"));
            }
        }
    }
}
