import java.io.ByteArrayOutputStream;
import java.io.IOException;
import java.io.PrintStream;
import java.lang.reflect.Method;
import java.lang.reflect.Modifier;
import java.nio.file.Files;
import java.nio.file.Path;

/** README.md says what is so: its example runs, and every call of the face is told. */
public final class ReadmeTest {
    public static void main(String[] args) throws IOException {
        String readme = Files.readString(Path.of("README.md"));
        String example = Files.readString(Path.of("src/test/java/Example.java"));
        Check.isTrue("the example of README.md is Example.java", readme.contains("```java\n" + example + "```\n"));
        String printed = printed();
        Check.isTrue("README.md shows what Example prints:\n" + printed, readme.contains("```text\n" + printed + "```\n"));
        for (Method method : HeardTunes.class.getDeclaredMethods()) {
            if (Modifier.isPublic(method.getModifiers())) {
                Check.isTrue("the table tells " + method.getName() + " with its arguments",
                    arguments(readme, method.getName()) == method.getParameterCount());
            }
        }
        Check.end("ReadmeTest");
    }

    private static String printed() {
        PrintStream before = System.out;
        ByteArrayOutputStream bytes = new ByteArrayOutputStream();
        System.setOut(new PrintStream(bytes));
        Example.main(new String[0]);
        System.out.flush();
        System.setOut(before);
        return bytes.toString().replace("\r\n", "\n");
    }

    /** How many arguments a call has in the table; -1 if it is not there. */
    private static int arguments(String readme, String call) {
        int at = readme.indexOf("`" + call + "(");
        if (at < 0) {
            return -1;
        }
        String inside = readme.substring(at + call.length() + 2, readme.indexOf(')', at));
        return inside.isEmpty() ? 0 : inside.split(",").length;
    }
}
