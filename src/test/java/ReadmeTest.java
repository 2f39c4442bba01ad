import java.io.File;
import java.lang.reflect.Method;
import java.nio.file.Files;
import java.nio.file.Path;
import java.util.regex.Matcher;
import java.util.regex.Pattern;

/** README.md: its calls answer as it tells, and all tests stand in its table. */
public final class ReadmeTest {
    private static final Pattern TYPED = Pattern.compile("for \\(char c : \"(.*)\"\\.toCharArray\\(\\)\\) cones\\.type\\((\\d), c\\);.*");
    private static final Pattern ASKED = Pattern.compile("cones\\.(\\w+)\\(([^)]*)\\);\\s*// (-?\\d+).*");

    public static void main(String[] args) throws Exception {
        String readme = Files.readString(Path.of("README.md"));
        String calls = readme.substring(readme.indexOf("```java") + 8);
        follow(calls.substring(0, calls.indexOf("```")).split("\n"));
        for (File file : new File("src/test/java").listFiles()) {
            String name = file.getName().replace(".java", "");
            if (name.endsWith("Test")) Check.yes("README.md names " + name, readme.contains("`" + name + "`"));
        }
        Check.end();
    }

    private static void follow(String[] lines) throws Exception {
        JanetCones cones = new JanetCones();
        int asked = 0;
        for (String line : lines) {
            Matcher typed = TYPED.matcher(line);
            Matcher call = ASKED.matcher(line);
            if (typed.matches()) {
                Check.text(cones, Integer.parseInt(typed.group(2)), typed.group(1));
            } else if (call.matches()) {
                Check.due(line, answer(cones, call.group(1), call.group(2)), Long.parseLong(call.group(3)));
                asked++;
            } else {
                Check.same("a line of README.md that is no call", line, "JanetCones cones = new JanetCones();");
            }
        }
        Check.yes("README.md has calls", asked > 5);
    }

    private static long answer(JanetCones cones, String name, String told) throws Exception {
        String[] parts = told.isEmpty() ? new String[0] : told.split(", *");
        Object[] numbers = new Object[parts.length];
        for (int i = 0; i < parts.length; i++) numbers[i] = Integer.parseInt(parts[i]);
        for (Method m : JanetCones.class.getDeclaredMethods()) {
            if (m.getName().equals(name)) return ((Number) m.invoke(cones, numbers)).longValue();
        }
        Check.yes("there is " + name, false);
        return 0;
    }
}
