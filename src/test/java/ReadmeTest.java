import java.lang.reflect.Method;
import java.nio.charset.StandardCharsets;
import java.nio.file.Files;
import java.nio.file.Path;
import java.util.HashMap;
import java.util.Map;
import java.util.regex.Matcher;
import java.util.regex.Pattern;

/** The example of README.md, line by line: each call answers the number that stands behind it. */
public final class ReadmeTest {
    private static final Check check = new Check("ReadmeTest");
    private static final Pattern MAKING = Pattern.compile("TideMen x = new TideMen\\(\\);");
    private static final Pattern TYPING = Pattern.compile(
        "for \\(char b : \"([^\"]*)\"\\.toCharArray\\(\\)\\) x\\.type\\((\\d), b\\); +// .*");
    private static final Pattern ASKING = Pattern.compile("x\\.(\\w+)\\(([^)]*)\\); +// (-?\\d+)( \\([A-Z]+\\))?: .*");
    private static final int ANSWERS = 34;

    public static void main(String[] args) throws Exception {
        Map<String, Method> calls = new HashMap<>();
        for (Method m : TideMen.class.getMethods()) calls.put(m.getName(), m);
        TideMen x = new TideMen();
        int answers = 0;
        for (String line : example()) {
            Matcher typing = TYPING.matcher(line);
            Matcher asking = ASKING.matcher(line);
            if (typing.matches()) {
                Check.type(x, Integer.parseInt(typing.group(2)), typing.group(1));
            } else if (asking.matches()) {
                Object got = calls.get(asking.group(1)).invoke(x, numbers(asking.group(2)));
                check.due(line, ((Number) got).longValue(), Long.parseLong(asking.group(3)));
                answers++;
            } else {
                boolean isMaking = line.isEmpty() || MAKING.matcher(line).matches();
                check.due("a line that can be read: " + line, isMaking ? 1 : 0, 1);
            }
        }
        check.due("answers told", answers, ANSWERS);
        check.end();
    }

    private static String[] example() throws Exception {
        String all = Files.readString(Path.of("README.md"), StandardCharsets.UTF_8);
        Matcher block = Pattern.compile("(?s)```java\n(.*?)```").matcher(all);
        return block.find() ? block.group(1).split("\n") : new String[0];
    }

    private static Object[] numbers(String arguments) {
        String[] words = arguments.isEmpty() ? new String[0] : arguments.split(", ");
        Object[] numbers = new Object[words.length];
        for (int i = 0; i < words.length; i++) {
            numbers[i] = words[i].equals("TideMen.NONE") ? TideMen.NONE : Integer.parseInt(words[i]);
        }
        return numbers;
    }
}
