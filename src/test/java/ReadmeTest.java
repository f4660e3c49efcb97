import java.io.IOException;
import java.lang.reflect.InvocationTargetException;
import java.lang.reflect.Method;
import java.nio.file.Files;
import java.nio.file.Path;
import java.util.ArrayList;
import java.util.List;
import java.util.regex.Matcher;
import java.util.regex.Pattern;

/**
 * Runs the Java code of README.md, so that it cannot tell what the class does not do. What a line
 * answers stands behind it: "// 14: why" or "// throws IllegalArgumentException: why".
 */
public final class ReadmeTest {
    private static final String NEW = "SafeKnown x = new SafeKnown();";
    private static final Pattern LAY = Pattern.compile("lay\\(x, \"([^\"]*)\"\\);");
    private static final Pattern CALL = Pattern.compile("x\\.(\\w+)\\(([^()]*)\\);  // (throws \\w+|-?\\w+)(: .*)?");

    private static SafeKnown x = null;
    private static int calls = 0;

    private ReadmeTest() {
    }

    public static void main(String[] args) throws IOException, ReflectiveOperationException {
        for (List<String> block : javaBlocks(Files.readAllLines(Path.of("README.md")))) {
            if (block.get(0).startsWith("static")) {
                isOurs(block);
            } else {
                for (String line : block) {
                    run(line);
                }
            }
        }
        Check.due("README.md has calls, " + calls, calls > 20, true);
        Check.finish("ReadmeTest");
    }

    // The README shows these two methods as they stand here.

    static void lay(SafeKnown x, String text) {
        for (int at = 0; at < text.length(); at += 20) {
            x.feed(four(text, at), four(text, at + 4), four(text, at + 8), four(text, at + 12), four(text, at + 16));
        }
        x.end(text.length());
    }

    static int four(String text, int at) {
        int number = 0;
        for (int i = at; i < at + 4; i++) {
            number = number << 8 | (i < text.length() ? text.charAt(i) & 255 : 0);
        }
        return number;
    }

    private static List<List<String>> javaBlocks(List<String> lines) {
        List<List<String>> blocks = new ArrayList<>();
        List<String> block = null;
        for (String line : lines) {
            if (line.equals("```java")) {
                block = new ArrayList<>();
            } else if (line.equals("```")) {
                if (block != null) {
                    blocks.add(block);
                }
                block = null;
            } else if (block != null) {
                block.add(line);
            }
        }
        return blocks;
    }

    private static void isOurs(List<String> block) throws IOException {
        StringBuilder text = new StringBuilder();
        for (String line : block) {
            text.append(line.isEmpty() ? "" : "    ").append(line).append('\n');
        }
        String own = Files.readString(Path.of("src/test/java/ReadmeTest.java"));
        Check.due("README.md shows lay and four as they stand here", own.contains(text), true);
    }

    private static void run(String line) throws ReflectiveOperationException {
        Matcher text = LAY.matcher(line);
        Matcher call = CALL.matcher(line);
        if (line.equals(NEW)) {
            x = new SafeKnown();
        } else if (x == null) {
            Check.fail("no object yet: " + line);
        } else if (text.matches()) {
            lay(x, text.group(1));
        } else if (call.matches()) {
            calls++;
            String got = answer(call.group(1), call.group(2));
            Check.due("that README.md's " + line + " answered " + got, got.equals(call.group(3)), true);
        } else {
            Check.fail("README.md has a line that is not run: " + line);
        }
    }

    private static String answer(String name, String arguments) throws ReflectiveOperationException {
        String[] told = arguments.isEmpty() ? new String[0] : arguments.split(", ");
        Class<?>[] types = new Class<?>[told.length];
        Object[] values = new Object[told.length];
        for (int i = 0; i < told.length; i++) {
            boolean flag = told[i].equals("true") || told[i].equals("false");
            types[i] = flag ? boolean.class : int.class;
            values[i] = flag ? (Object) Boolean.valueOf(told[i]) : (Object) Integer.valueOf(told[i]);
        }
        Method method = SafeKnown.class.getMethod(name, types);
        try {
            return String.valueOf(method.invoke(x, values));
        } catch (InvocationTargetException thrown) {
            return "throws " + thrown.getCause().getClass().getSimpleName();
        }
    }
}
