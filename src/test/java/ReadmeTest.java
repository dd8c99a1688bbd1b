import java.lang.reflect.Method;
import java.lang.reflect.Modifier;
import java.nio.charset.StandardCharsets;
import java.nio.file.Files;
import java.nio.file.Path;
import java.util.regex.Matcher;
import java.util.regex.Pattern;

/** README.md's example answers as it says, and README.md names every call. Argument: README.md. */
public final class ReadmeTest {
    private static final Due DUE = new Due();
    private static final Pattern CALL = Pattern.compile("x\\.(\\w+)\\(([^()]*)\\); *// (-?\\d+)\\b.*");
    private static final Pattern FEEDS = Pattern.compile("for \\(char sign : \"(.*)\"\\.toCharArray\\(\\)\\).*");
    private static final String MADE = "CutCrooked x = new CutCrooked();";

    public static void main(String[] args) throws Exception {
        String readme = Files.readString(Path.of(args[0]), StandardCharsets.UTF_8);
        int from = readme.indexOf("```java\n");
        int to = readme.indexOf("\n```", from);
        DUE.part("the example");
        DUE.is("there is one", from >= 0 && to > from ? 1 : 0, 1);
        example(readme.substring(from + 8, to).split("\n"));
        DUE.part("the calls");
        for (Method m : CutCrooked.class.getDeclaredMethods()) {
            if (Modifier.isPublic(m.getModifiers())) {
                DUE.is(m.getName() + " is named", readme.contains("`" + m.getName() + "`") ? 1 : 0, 1);
            }
        }
        DUE.end();
    }

    private static void example(String[] lines) throws Exception {
        CutCrooked x = null;
        for (String line : lines) {
            Matcher call = CALL.matcher(line);
            Matcher feeds = FEEDS.matcher(line);
            if (line.startsWith(MADE)) {
                x = new CutCrooked();
            } else if (feeds.matches()) {
                Due.feed(x, feeds.group(1));
            } else if (call.matches()) {
                DUE.is(line, answer(x, call.group(1), call.group(2)), Long.parseLong(call.group(3)));
            } else {
                DUE.is("a line that is not understood: " + line, 0, 1);
            }
        }
    }

    private static long answer(CutCrooked x, String name, String text) throws Exception {
        String[] parts = text.isEmpty() ? new String[0] : text.split(", ");
        Object[] values = new Object[parts.length];
        Class<?>[] types = new Class<?>[parts.length];
        for (int i = 0; i < parts.length; i++) {
            boolean flag = parts[i].equals("true") || parts[i].equals("false");
            types[i] = flag ? boolean.class : int.class;
            values[i] = flag ? (Object) Boolean.valueOf(parts[i]) : (Object) Integer.valueOf(parts[i]);
        }
        return ((Number) CutCrooked.class.getMethod(name, types).invoke(x, values)).longValue();
    }
}
