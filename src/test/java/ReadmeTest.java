import java.io.ByteArrayOutputStream;
import java.io.IOException;
import java.io.PrintStream;
import java.nio.charset.StandardCharsets;
import java.nio.file.Files;
import java.nio.file.Path;
import java.util.ArrayList;
import java.util.List;
import java.util.regex.Matcher;
import java.util.regex.Pattern;

/** README.md shows Example.java as it is, and each answer that it tells there is the one that comes. */
public final class ReadmeTest {
    private ReadmeTest() {
    }

    public static void main(String[] args) throws IOException {
        String example = Files.readString(Path.of("src/test/java/Example.java"));
        String readme = Files.readString(Path.of("README.md"));
        Check.at("README");
        Check.due("Example.java in README.md", readme.contains("```java\n" + example + "```\n"), true);
        answers(told(example), printed());
        Check.at("README, the calls");
        everyCall(readme, example);
        Check.close();
    }

    private static List<String> told(String example) {
        List<String> told = new ArrayList<>();
        Matcher m = Pattern.compile("show\\(x\\..*\\); *// (-?\\d+)").matcher(example);
        while (m.find()) {
            told.add(m.group(1));
        }
        Check.due("answers told", told.size(), example.split("show\\(x\\.").length - 1);
        return told;
    }

    private static List<String> printed() {
        PrintStream screen = System.out;
        ByteArrayOutputStream bytes = new ByteArrayOutputStream();
        System.setOut(new PrintStream(bytes, true, StandardCharsets.UTF_8));
        Example.main(new String[0]);
        System.setOut(screen);
        return bytes.toString(StandardCharsets.UTF_8).lines().toList();
    }

    private static void answers(List<String> told, List<String> printed) {
        Check.due("answers", printed.size(), told.size());
        for (int i = 0; i < told.size() && i < printed.size(); i++) {
            Check.due("answer " + i + " of the example", Integer.parseInt(printed.get(i)), Integer.parseInt(told.get(i)));
        }
    }

    /** Each call of the face stands in the list of calls. */
    private static void everyCall(String readme, String example) {
        String list = readme.replace(example, "");
        for (java.lang.reflect.Method m : WhereShe.class.getDeclaredMethods()) {
            if (java.lang.reflect.Modifier.isPublic(m.getModifiers())) {
                Check.due(m.getName() + " in the list", list.contains("`" + m.getName() + "("), true);
            }
        }
    }
}
