import java.io.File;
import java.io.IOException;
import java.lang.reflect.Method;
import java.lang.reflect.Modifier;
import java.nio.file.Files;
import java.nio.file.Path;
import java.util.regex.Matcher;
import java.util.regex.Pattern;

/** README.md: the run that it shows answers what it says, and it tells each call, each constant and each test. */
public final class ReadmeTest {
    private static final Pattern SHOWN = Pattern.compile("x\\.(\\w+\\([^)]*\\)); +// = (-?\\d+)");
    private static final int LEAST_SHOWN = 10;
    private static final Check CHECK = new Check("ReadmeTest");

    public static void main(String[] args) throws IOException {
        String text = Files.readString(Path.of("README.md"));
        shownRun(text);
        calls(text);
        constants(text);
        tests(text);
        CHECK.end();
    }

    private static void shownRun(String text) {
        BornNumbers x = new BornNumbers();
        Matcher shown = SHOWN.matcher(text);
        int count = 0;
        while (shown.find()) {
            String call = shown.group(1).replace(" << ", "<<");
            CHECK.due(call, Calls.on(x, call), Integer.parseInt(shown.group(2)));
            count++;
        }
        // A pattern that finds nothing would pass whatever README.md says.
        CHECK.due("calls are shown", count >= LEAST_SHOWN ? 1 : 0, 1);
        CHECK.due("each call that is shown has an answer", text.split("(?m)^x\\.").length - 1, count);
    }

    /** Each call has a line of a table, with as many arguments as it takes. */
    private static void calls(String text) {
        for (Method method : BornNumbers.class.getDeclaredMethods()) {
            if (Modifier.isPublic(method.getModifiers())) {
                int others = method.getParameterCount() - 1;
                Pattern line = Pattern.compile("(?m)^\\| `" + method.getName() + "\\(\\w+(, \\w+){" + others + "}\\)` \\|");
                CHECK.due("README.md tells " + method.getName(), line.matcher(text).find() ? 1 : 0, 1);
            }
        }
    }

    private static void constants(String text) {
        String[] names = {"BAD", "NO", "FAR", "NONE", "HIGH"};
        int[] values = {BornNumbers.BAD, BornNumbers.NO, BornNumbers.FAR, BornNumbers.NONE, BornNumbers.HIGH};
        for (int i = 0; i < names.length; i++) {
            String line = "| `" + names[i] + "` | " + values[i] + " |";
            CHECK.due("README.md tells " + names[i], text.contains(line) ? 1 : 0, 1);
        }
    }

    private static void tests(String text) {
        String[] files = new File("src/test/java").list();
        CHECK.due("there are tests", files != null && files.length > 0 ? 1 : 0, 1);
        for (String file : files == null ? new String[0] : files) {
            String name = file.replace(".java", "");
            String told = name.endsWith("Test") ? "| " + name + " |" : "`" + name + "`";
            CHECK.due("README.md tells " + name, text.contains(told) ? 1 : 0, 1);
        }
    }
}
